/-! What was parsed: parts lie apart; only the places from i on are written. -/
theorem qy_loop_out {F : Nat → (Nat → Nat) → Option Nat × (Nat → Nat)} {i : Nat} {base : Nat} (hF : ∀ p bg o bg', F p bg = (o, bg') → (∀ j, j < p * 3 → bg' j = bg j) ∧ ∀ q, o = some q → p < q ∧ ∀ j, q * 3 ≤ j → bg' j = bg j) (hb : base = i * 3) : ∀ (c k p : Nat) (bg : Nat → Nat) (o : Option Nat) (bg' : Nat → Nat), k + c ≤ 3 → i < p → qy_loop F base c k p bg = (o, bg') → (∀ j, j < i * 3 + k → bg' j = bg j) ∧ ∀ q, o = some q → p ≤ q ∧ (∀ j, i * 3 + 3 ≤ j → j < p * 3 → bg' j = bg j) ∧ ∀ j, q * 3 ≤ j → bg' j = bg j := by
  intro c
  induction c with
  | zero =>
    intro k p bg o bg' hk hp h
    simp only [qy_loop, Prod.mk.injEq] at h
    obtain ⟨rfl, rfl⟩ := h
    exact ⟨fun _ _ => rfl, fun q hq => by cases hq; exact ⟨Nat.le_refl _, fun _ _ _ => rfl, fun _ _ => rfl⟩⟩
  | succ c ih =>
    intro k p bg o bg' hk hp h
    unfold qy_loop at h
    cases hx : F p (va_up bg (base + k) p) with
    | mk o1 b1 =>
      rw [hx] at h
      obtain ⟨f1, f2⟩ := hF _ _ _ _ hx
      cases o1 with
      | none =>
        simp only [Prod.mk.injEq] at h
        obtain ⟨rfl, rfl⟩ := h
        exact ⟨fun j hj => (f1 j (by omega)).trans (va_up_n (by omega)), fun q hq => by cases hq⟩
      | some z =>
        have h : qy_loop F base c (k + 1) z b1 = (o, bg') := h
        obtain ⟨f3, f4⟩ := f2 z rfl
        obtain ⟨g1, g2⟩ := ih (k + 1) z b1 o bg' (by omega) (by omega) h
        refine ⟨fun j hj => (g1 j (by omega)).trans ((f1 j (by omega)).trans (va_up_n (by omega))), fun q hq => ?_⟩
        obtain ⟨g3, g4, g5⟩ := g2 q hq
        refine ⟨by omega, fun j h1 h2 => ?_, fun j hj => (g5 j hj).trans ((f4 j (by omega)).trans (va_up_n (by omega)))⟩
        exact (g4 j h1 (by omega)).trans ((f1 j h2).trans (va_up_n (by omega)))
theorem qy_run_out {cb : Nat → Nat} {n : Nat} : ∀ (d i : Nat) (bg : Nat → Nat) (o : Option Nat) (bg' : Nat → Nat), qy_run cb n d i bg = (o, bg') → (∀ j, j < i * 3 → bg' j = bg j) ∧ ∀ q, o = some q → i < q ∧ ∀ j, q * 3 ≤ j → bg' j = bg j := by
  intro d
  induction d with
  | zero =>
    intro i bg o bg' h
    simp only [qy_run, Prod.mk.injEq] at h
    obtain ⟨rfl, rfl⟩ := h
    exact ⟨fun _ _ => rfl, fun q hq => by cases hq⟩
  | succ d ih =>
    intro i bg o bg' h
    unfold qy_run at h
    by_cases hc : i < n ∧ cb i < 27 ∧ qy_has cb n i = true
    · rw [if_pos hc] at h
      obtain ⟨g1, g2⟩ := qy_loop_out (i := i) ih rfl _ _ _ _ _ _ (by have := qy_parts_le (cb i) hc.2.1; omega) (by split <;> omega) h
      refine ⟨fun j hj => g1 j (by omega), fun q hq => ?_⟩
      obtain ⟨g3, g4, g5⟩ := g2 q hq
      refine ⟨?_, g5⟩
      split at g3 <;> omega
    · rw [if_neg hc] at h
      simp only [Prod.mk.injEq] at h
      obtain ⟨rfl, rfl⟩ := h
      exact ⟨fun _ _ => rfl, fun q hq => by cases hq⟩
/-- qn looks only at the places of its part -/
theorem qn.congr {cb bg bg2 : Nat → Nat} {N : Nat} : ∀ {w c e : Nat}, qn cb bg N w c e → (∀ j, c * 3 ≤ j → j < e * 3 → bg2 j = bg j) → qn cb bg2 N w c e := by
  intro w
  induction w with
  | zero => intro c e h; exact h.elim
  | succ w ih =>
    intro c e h hb
    obtain ⟨h1, en, h2, h3⟩ := qn_o.mp h
    have hp := qy_parts_le (cb c) (by omega)
    have hbg : ∀ i, i < qy_parts (cb c) → bg2 (c * 3 + i) = bg (c * 3 + i) := fun i hi => hb _ (by omega) (by omega)
    refine qn_o.mpr ⟨h1, en, fun i hi => ?_, fun i j hij hj => ?_⟩
    · rw [hbg i hi]
      obtain ⟨a1, a2, a3⟩ := h2 i hi
      exact ⟨a1, a2, ih a3 (fun j j1 j2 => hb j (by omega) (by omega))⟩
    · rw [hbg j hj]; exact h3 i j hij hj
theorem qn.le {cb bg : Nat → Nat} {N w c e e2 : Nat} (h : qn cb bg N w c e) (h1 : e ≤ e2) (h2 : e2 ≤ N) : qn cb bg N w c e2 := by
  cases w with
  | zero => exact h.elim
  | succ w =>
    obtain ⟨⟨a1, a2, a3⟩, en, h3, h4⟩ := qn_o.mp h
    exact qn_o.mpr ⟨⟨by omega, h2, a3⟩, en, fun i hi => ⟨(h3 i hi).1, by have := (h3 i hi).2.1; omega, (h3 i hi).2.2⟩, h4⟩
/-- the parts of one part, one behind the other -/
theorem qy_loop_qn {cb : Nat → Nat} {n d i : Nat} (ih : ∀ (p : Nat) (bg : Nat → Nat) (q : Nat) (bg' : Nat → Nat), qy_run cb n d p bg = (some q, bg') → qn cb bg' n d p q) : ∀ (c k p : Nat) (bg : Nat → Nat) (q : Nat) (bg' : Nat → Nat), k + c ≤ 3 → i < p → qy_loop (qy_run cb n d) (i * 3) c k p bg = (some q, bg') → ∃ en : Nat → Nat, (∀ j, k ≤ j → j < k + c → p ≤ bg' (i * 3 + j) ∧ en j ≤ q ∧ qn cb bg' n d (bg' (i * 3 + j)) (en j)) ∧ ∀ x y, k ≤ x → x < y → y < k + c → en x ≤ bg' (i * 3 + y) := by
  intro c
  induction c with
  | zero => intro k p bg q bg' hk hp h; exact ⟨fun _ => 0, fun j h1 h2 => absurd h2 (by omega), fun x y h1 h2 h3 => absurd h3 (by omega)⟩
  | succ c im =>
    intro k p bg q bg' hk hp h
    unfold qy_loop at h
    cases hx : qy_run cb n d p (va_up bg (i * 3 + k) p) with
    | mk o1 b1 =>
      rw [hx] at h
      cases o1 with
      | none => simp at h
      | some z =>
        have h : qy_loop (qy_run cb n d) (i * 3) c (k + 1) z b1 = (some q, bg') := h
        obtain ⟨f1, f2⟩ := qy_run_out _ _ _ _ _ hx
        obtain ⟨f3, f4⟩ := f2 z rfl
        have hq1 := ih _ _ _ _ hx
        obtain ⟨en, e1, e2⟩ := im (k + 1) z b1 q bg' (by omega) (by omega) h
        obtain ⟨g1, g2⟩ := qy_loop_out (i := i) (qy_run_out d) rfl _ _ _ _ _ _ (by omega) (by omega) h
        obtain ⟨g3, g4, g5⟩ := g2 q rfl
        have ek : bg' (i * 3 + k) = p := by
          rw [g1 _ (by omega), f1 _ (by omega), va_up_s]
        refine ⟨fun j => if j = k then z else en j, fun j j1 j2 => ?_, fun x y x1 x2 x3 => ?_⟩
        · by_cases ej : j = k
          · subst ej
            simp only [if_true]
            rw [ek]
            exact ⟨Nat.le_refl _, g3, hq1.congr (fun t t1 t2 => g4 t (by omega) t2)⟩
          · simp only [if_neg ej]
            obtain ⟨a1, a2, a3⟩ := e1 j (by omega) (by omega)
            exact ⟨by omega, a2, a3⟩
        · show (if x = k then z else en x) ≤ _
          by_cases ex : x = k
          · rw [if_pos ex]; exact (e1 y (by omega) (by omega)).1
          · rw [if_neg ex]; exact e2 x y (by omega) x2 (by omega)
theorem qy_run_qn {cb : Nat → Nat} {n : Nat} (hcb : ∀ j, cb j < 256) : ∀ (d i : Nat) (bg : Nat → Nat) (q : Nat) (bg' : Nat → Nat), qy_run cb n d i bg = (some q, bg') → qn cb bg' n d i q := by
  intro d
  induction d with
  | zero => intro i bg q bg' h; simp [qy_run] at h
  | succ d ih =>
    intro i bg q bg' h
    have hle := qy_run_le _ _ _ _ _ h
    have hlt := ((qy_run_out _ _ _ _ _ h).2 q rfl).1
    unfold qy_run at h
    by_cases hc : i < n ∧ cb i < 27 ∧ qy_has cb n i = true
    · rw [if_pos hc] at h
      have hp := qy_parts_le (cb i) hc.2.1
      have hlp : i < i + (if (qy_let (cb i) || qy_num (cb i)) = true then 2 else 1) := by split <;> omega
      obtain ⟨en, e1, e2⟩ := qy_loop_qn ih _ _ _ _ _ _ (by omega) hlp h
      refine qn_o.mpr ⟨⟨hlt, hle, by omega, fun hl => ?_, fun hm => ?_⟩, en, fun j hj => ?_, fun x y x1 x2 => e2 x y (Nat.zero_le _) x1 (by omega)⟩
      · have hl2 : qy_let (cb i) = true := by
          rcases hl with e | e | e <;> rw [e] <;> decide
        have h3 := hc.2.2
        simp [qy_has, hl2] at h3
        exact ⟨by omega, by omega, by omega⟩
      · have hm2 : qy_num (cb i) = true := by
          rcases hm with e | e <;> rw [e] <;> decide
        have hl2 : qy_let (cb i) = false := by
          rcases hm with e | e <;> rw [e] <;> decide
        have h3 := hc.2.2
        simp [qy_has, hl2, hm2] at h3
        exact ⟨by omega, hcb _⟩
      · obtain ⟨a1, a2, a3⟩ := e1 j (Nat.zero_le _) (by omega)
        exact ⟨by omega, a2, a3⟩
    · rw [if_neg hc] at h
      simp at h
/-! Two queries whose parts are the same. -/
def qa (cb bg bg2 : Nat → Nat) : Nat → Nat → Prop
  | 0, _ => True
  | w + 1, c => ∀ i, i < qy_parts (cb c) → bg2 (c * 3 + i) = bg (c * 3 + i) ∧ qa cb bg bg2 w (bg (c * 3 + i))
theorem sr_part_congr {cb cb2 : Nat → Nat} {c : Nat} {dp dp2 : vt → sr} {D D2 : Nat → vt → vt → sr} {X Y : vt} (h26 : cb c ≤ 26) (hc : cb2 c = cb c) (hc1 : cb c = 1 ∨ cb c = 2 ∨ cb c = 5 ∨ cb c = 6 ∨ cb c = 16 → cb2 (c + 1) = cb (c + 1)) (hdp : dp2 = dp) (hD : ∀ i, i < qy_parts (cb c) → D2 i = D i) : sr_part cb2 c dp2 D2 X Y = sr_part cb c dp D X Y := by
  unfold sr_part
  rw [hc, hdp]
  by_cases k3 : cb c = 3
  · rw [if_pos k3, if_pos k3]
  rw [if_neg k3, if_neg k3]
  by_cases k4 : cb c = 4
  · rw [if_pos k4, if_pos k4]
  rw [if_neg k4, if_neg k4]
  by_cases k8 : cb c = 8 ∨ cb c = 11 ∨ 22 ≤ cb c
  · rw [if_pos k8, if_pos k8]
    have hq : 2 ≤ qy_parts (cb c) ∧ (cb c = 11 → 3 ≤ qy_parts (cb c)) := by
      rcases k8 with k8 | k8 | k8
      · rw [k8]; decide
      · rw [k8]; decide
      · have : cb c = 22 ∨ cb c = 23 ∨ cb c = 24 ∨ cb c = 25 ∨ cb c = 26 := by omega
        rcases this with q | q | q | q | q <;> rw [q] <;> decide
    have e : ∀ x, sr_G (cb c) D2 X Y x = sr_G (cb c) D X Y x := by
      intro x
      unfold sr_G
      rw [hD 1 (by omega)]
      by_cases k11 : cb c = 11
      · rw [hD 2 (by have := hq.2 k11; omega)]
      · rw [if_neg (show ¬ (cb c = 11 ∧ vt_tr x = false) from fun z => k11 z.1), if_neg (show ¬ (cb c = 11 ∧ vt_tr x = false) from fun z => k11 z.1)]
    rw [hD 0 (by omega)]
    simp only [e]
  rw [if_neg k8, if_neg k8]
  by_cases k9 : cb c = 9
  · rw [if_pos k9, if_pos k9]
    have hq : qy_parts (cb c) = 2 := by rw [k9]; decide
    rw [hD 0 (by omega), hD 1 (by omega)]
  rw [if_neg k9, if_neg k9]
  by_cases k10 : cb c = 10
  · rw [if_pos k10, if_pos k10]
    have hq : qy_parts (cb c) = 2 := by rw [k10]; decide
    rw [hD 0 (by omega), hD 1 (by omega)]
  rw [if_neg k10, if_neg k10]
  by_cases k12 : cb c = 12
  · rw [if_pos k12, if_pos k12]
    have hq : qy_parts (cb c) = 1 := by rw [k12]; decide
    rw [hD 0 (by omega)]
  rw [if_neg k12, if_neg k12]
  by_cases k13 : cb c = 13
  · rw [if_pos k13, if_pos k13]
    have hq : qy_parts (cb c) = 1 := by rw [k13]; decide
    rw [hD 0 (by omega)]
  rw [if_neg k13, if_neg k13]
  by_cases k14 : cb c = 14
  · rw [if_pos k14, if_pos k14]
    have hq : qy_parts (cb c) = 3 := by rw [k14]; decide
    rw [hD 0 (by omega), hD 1 (by omega), hD 2 (by omega)]
  rw [if_neg k14, if_neg k14]
  by_cases k16 : cb c = 16
  · rw [if_pos k16, if_pos k16]
    have hq : qy_parts (cb c) = 1 := by rw [k16]; decide
    rw [hD 0 (by omega), hc1 (by omega)]
  rw [if_neg k16, if_neg k16]
  by_cases k17 : cb c = 17
  · rw [if_pos k17, if_pos k17]
  rw [if_neg k17, if_neg k17]
  have e : sr_leaf cb2 c X Y = sr_leaf cb c X Y := by
    unfold sr_leaf
    rw [hc]
    by_cases l0 : cb c = 0
    · rw [if_pos l0, if_pos l0]
    rw [if_neg l0, if_neg l0]
    by_cases l1 : cb c = 1
    · rw [if_pos l1, if_pos l1, hc1 (by omega)]
    rw [if_neg l1, if_neg l1]
    by_cases l2 : cb c = 2
    · rw [if_pos l2, if_pos l2, hc1 (by omega)]
    rw [if_neg l2, if_neg l2]
    by_cases l5 : cb c = 5
    · rw [if_pos l5, if_pos l5, hc1 (by omega)]
    rw [if_neg l5, if_neg l5]
    by_cases l6 : cb c = 6
    · rw [if_pos l6, if_pos l6, hc1 (by omega)]
    rw [if_neg l6, if_neg l6]
  rw [e]
theorem sr_B_congr {cb bg cb2 bg2 : Nat → Nat} {N : Nat} (hcb : ∀ j, j < N → cb2 j = cb j) : ∀ {n w c e : Nat} {X Y : vt}, qn cb bg N w c e → qa cb bg bg2 w c → sr_B cb2 bg2 n c X Y = sr_B cb bg n c X Y := by
  intro n
  induction n with
  | zero => intro w c e X Y _ _; rfl
  | succ n ih =>
    intro w c e X Y hq ha
    have hq0 := hq
    cases w with
    | zero => exact hq.elim
    | succ w =>
      obtain ⟨⟨h1, h2, h3, h4, h5⟩, en, h6, h7⟩ := qn_o.mp hq
      rw [sr_B_o, sr_B_o]
      refine sr_part_congr h3 (hcb c (by omega)) (fun z => hcb _ ?_) (funext (fun Z => ?_)) (fun i hi => funext (fun Z => funext (fun W => ?_)))
      · rcases z with z | z | z | z | z
        · exact (h4 (by omega)).1
        · exact (h5 (by omega)).1
        · exact (h5 (by omega)).1
        · exact (h4 (by omega)).1
        · exact (h4 (by omega)).1
      · show sr_add 1 (sr_B cb2 bg2 n c Z Y) = sr_add 1 (sr_B cb bg n c Z Y)
        rw [ih hq0 ha]
      · show sr_add 1 (sr_B cb2 bg2 n (bg2 (c * 3 + i)) Z W) = sr_add 1 (sr_B cb bg n (bg (c * 3 + i)) Z W)
        rw [(ha i hi).1, ih (h6 i hi).2.2 (ha i hi).2]
theorem qa.congr {cb bg bg2 bg' bg2' : Nat → Nat} {N : Nat} : ∀ {w c e : Nat}, qa cb bg bg2 w c → qn cb bg N w c e → (∀ j, c * 3 ≤ j → j < e * 3 → bg' j = bg j) → (∀ j, c * 3 ≤ j → j < e * 3 → bg2' j = bg2 j) → qa cb bg' bg2' w c := by
  intro w
  induction w with
  | zero => intro c e _ _ _ _; exact trivial
  | succ w ih =>
    intro c e h hq hb hb2
    obtain ⟨⟨h1, h2, h3, -⟩, en, h6, h7⟩ := qn_o.mp hq
    have hp := qy_parts_le (cb c) (by omega)
    intro i hi
    obtain ⟨a1, a2⟩ := h i hi
    obtain ⟨b1, b2, b3⟩ := h6 i hi
    have e1 := hb (c * 3 + i) (by omega) (by omega)
    have e2 := hb2 (c * 3 + i) (by omega) (by omega)
    rw [e1, e2]
    exact ⟨a1, ih a2 b3 (fun j j1 j2 => hb j (by omega) (by omega)) (fun j j1 j2 => hb2 j (by omega) (by omega))⟩
theorem qy_has_congr {cb cb2 : Nat → Nat} {n i : Nat} (hcb : ∀ j, j < n → cb2 j = cb j) (hi : i < n) : qy_has cb2 n i = qy_has cb n i := by
  unfold qy_has
  rw [hcb i hi]
  by_cases h : i + 1 < n
  · rw [hcb _ h]
  · simp [h]
/-- the same bytes, whatever lay in the rows before -/
theorem qy_loop_two {cb cb2 : Nat → Nat} {n d i : Nat} (hcb256 : ∀ j, cb j < 256) (ih : ∀ (p : Nat) (bg bg2 : Nat → Nat), (qy_run cb2 n d p bg2).1 = (qy_run cb n d p bg).1 ∧ ∀ q, (qy_run cb n d p bg).1 = some q → qa cb (qy_run cb n d p bg).2 (qy_run cb2 n d p bg2).2 d p) : ∀ (c k p : Nat) (bg bg2 : Nat → Nat), k + c ≤ 3 → i < p → (qy_loop (qy_run cb2 n d) (i * 3) c k p bg2).1 = (qy_loop (qy_run cb n d) (i * 3) c k p bg).1 ∧ ∀ q, (qy_loop (qy_run cb n d) (i * 3) c k p bg).1 = some q → ∀ j, k ≤ j → j < k + c → (qy_loop (qy_run cb2 n d) (i * 3) c k p bg2).2 (i * 3 + j) = (qy_loop (qy_run cb n d) (i * 3) c k p bg).2 (i * 3 + j) ∧ qa cb (qy_loop (qy_run cb n d) (i * 3) c k p bg).2 (qy_loop (qy_run cb2 n d) (i * 3) c k p bg2).2 d ((qy_loop (qy_run cb n d) (i * 3) c k p bg).2 (i * 3 + j)) := by
  intro c
  induction c with
  | zero => intro k p bg bg2 hk hp; exact ⟨rfl, fun q _ j h1 h2 => absurd h2 (by omega)⟩
  | succ c im =>
    intro k p bg bg2 hk hp
    obtain ⟨e1, e2⟩ := ih p (va_up bg (i * 3 + k) p) (va_up bg2 (i * 3 + k) p)
    cases hx : qy_run cb n d p (va_up bg (i * 3 + k) p) with
    | mk o1 b1 =>
      cases hy : qy_run cb2 n d p (va_up bg2 (i * 3 + k) p) with
      | mk o2 b2 =>
        rw [hx, hy] at e1 e2
        have e1 : o2 = o1 := e1
        subst e1
        have ux : qy_loop (qy_run cb n d) (i * 3) (c + 1) k p bg = (match (o2, b1) with | (none, bg') => (none, bg') | (some p', bg') => qy_loop (qy_run cb n d) (i * 3) c (k + 1) p' bg') := by
          rw [← hx]; rfl
        have uy : qy_loop (qy_run cb2 n d) (i * 3) (c + 1) k p bg2 = (match (o2, b2) with | (none, bg') => (none, bg') | (some p', bg') => qy_loop (qy_run cb2 n d) (i * 3) c (k + 1) p' bg') := by
          rw [← hy]; rfl
        rw [ux, uy]
        cases o2 with
        | none => exact ⟨rfl, fun q hq => by cases hq⟩
        | some z =>
          show (qy_loop (qy_run cb2 n d) (i * 3) c (k + 1) z b2).1 = (qy_loop (qy_run cb n d) (i * 3) c (k + 1) z b1).1 ∧ ∀ q, (qy_loop (qy_run cb n d) (i * 3) c (k + 1) z b1).1 = some q → ∀ j, k ≤ j → j < k + (c + 1) → (qy_loop (qy_run cb2 n d) (i * 3) c (k + 1) z b2).2 (i * 3 + j) = (qy_loop (qy_run cb n d) (i * 3) c (k + 1) z b1).2 (i * 3 + j) ∧ qa cb (qy_loop (qy_run cb n d) (i * 3) c (k + 1) z b1).2 (qy_loop (qy_run cb2 n d) (i * 3) c (k + 1) z b2).2 d ((qy_loop (qy_run cb n d) (i * 3) c (k + 1) z b1).2 (i * 3 + j))
          obtain ⟨f1, f2⟩ := qy_run_out _ _ _ _ _ hx
          obtain ⟨f3, f4⟩ := f2 z rfl
          obtain ⟨g1, g2⟩ := qy_run_out _ _ _ _ _ hy
          have hqn := qy_run_qn hcb256 _ _ _ _ _ hx
          have hqa : qa cb b1 b2 d p := e2 z rfl
          obtain ⟨m1, m2⟩ := im (k + 1) z b1 b2 (by omega) (by omega)
          refine ⟨m1, fun q hq j j1 j2 => ?_⟩
          cases hlx : qy_loop (qy_run cb n d) (i * 3) c (k + 1) z b1 with
          | mk ox bx =>
            cases hly : qy_loop (qy_run cb2 n d) (i * 3) c (k + 1) z b2 with
            | mk oy by' =>
              have m2' := m2 q hq
              rw [hlx] at hq m1 m2'
              rw [hly] at m1 m2'
              have hq : ox = some q := hq
              have m1 : oy = ox := m1
              subst hq
              subst m1
              obtain ⟨x1, x2⟩ := qy_loop_out (i := i) (qy_run_out d) rfl _ _ _ _ _ _ (by omega) (by omega) hlx
              obtain ⟨y1, y2⟩ := qy_loop_out (i := i) (qy_run_out d) rfl _ _ _ _ _ _ (by omega) (by omega) hly
              obtain ⟨x3, x4, x5⟩ := x2 q rfl
              obtain ⟨y3, y4, y5⟩ := y2 q rfl
              by_cases ej : j = k
              · subst ej
                have ex : bx (i * 3 + j) = p := by rw [x1 _ (by omega), f1 _ (by omega), va_up_s]
                have ey : by' (i * 3 + j) = p := by rw [y1 _ (by omega), g1 _ (by omega), va_up_s]
                show by' (i * 3 + j) = bx (i * 3 + j) ∧ qa cb bx by' d (bx (i * 3 + j))
                rw [ex, ey]
                exact ⟨rfl, hqa.congr hqn (fun t t1 t2 => x4 t (by omega) t2) (fun t t1 t2 => y4 t (by omega) t2)⟩
              · exact m2' j (by omega) (by omega)
theorem qy_run_two {cb cb2 : Nat → Nat} {n : Nat} (hcb256 : ∀ j, cb j < 256) (hcb : ∀ j, j < n → cb2 j = cb j) : ∀ (d i : Nat) (bg bg2 : Nat → Nat), (qy_run cb2 n d i bg2).1 = (qy_run cb n d i bg).1 ∧ ∀ q, (qy_run cb n d i bg).1 = some q → qa cb (qy_run cb n d i bg).2 (qy_run cb2 n d i bg2).2 d i := by
  intro d
  induction d with
  | zero => intro i bg bg2; exact ⟨rfl, fun q hq => by cases hq⟩
  | succ d ih =>
    intro i bg bg2
    unfold qy_run
    by_cases hi : i < n
    · by_cases hc : i < n ∧ cb i < 27 ∧ qy_has cb n i = true
      · have hc2 : i < n ∧ cb2 i < 27 ∧ qy_has cb2 n i = true := by rw [hcb i hi, qy_has_congr hcb hi]; exact hc
        rw [if_pos hc, if_pos hc2, hcb i hi]
        have hp := qy_parts_le (cb i) hc.2.1
        have hlp : i < i + (if (qy_let (cb i) || qy_num (cb i)) = true then 2 else 1) := by split <;> omega
        obtain ⟨m1, m2⟩ := qy_loop_two hcb256 ih (qy_parts (cb i)) 0 _ bg bg2 (by omega) hlp
        exact ⟨m1, fun q hq j hj => m2 q hq j (Nat.zero_le _) (by omega)⟩
      · have hc2 : ¬ (i < n ∧ cb2 i < 27 ∧ qy_has cb2 n i = true) := by rw [hcb i hi, qy_has_congr hcb hi]; exact hc
        rw [if_neg hc, if_neg hc2]
        exact ⟨rfl, fun q hq => by cases hq⟩
    · rw [if_neg (fun z => hi z.1), if_neg (fun z => hi z.1)]
      exact ⟨rfl, fun q hq => by cases hq⟩
