/-! What findBehind finds: the place behind a part, and where the parts in it begin. -/
def qy_loop (F : Nat → (Nat → Nat) → Option Nat × (Nat → Nat)) (base : Nat) : Nat → Nat → Nat → (Nat → Nat) → Option Nat × (Nat → Nat)
  | 0, _, p, bg => (some p, bg)
  | c + 1, k, p, bg => match F p (va_up bg (base + k) p) with
    | (none, bg') => (none, bg')
    | (some p', bg') => qy_loop F base c (k + 1) p' bg'
def qy_run (cb : Nat → Nat) (n : Nat) : Nat → Nat → (Nat → Nat) → Option Nat × (Nat → Nat)
  | 0, _, bg => (none, bg)
  | d + 1, i, bg => if i < n ∧ cb i < 27 ∧ qy_has cb n i = true then qy_loop (qy_run cb n d) (i * 3) (qy_parts (cb i)) 0 (i + (if qy_let (cb i) || qy_num (cb i) then 2 else 1)) bg else (none, bg)
def qy_ret (o : Option Nat) : Int32 := match o with
  | none => -1
  | some p => nI p
theorem qy_loop_le {F : Nat → (Nat → Nat) → Option Nat × (Nat → Nat)} {base n : Nat} (hF : ∀ p bg q bg', F p bg = (some q, bg') → q ≤ n) : ∀ (c k p : Nat) (bg : Nat → Nat) (q : Nat) (bg' : Nat → Nat), p ≤ n → qy_loop F base c k p bg = (some q, bg') → q ≤ n
  | 0, k, p, bg, q, bg', hp, h => by
    simp only [qy_loop, Prod.mk.injEq, Option.some.injEq] at h
    omega
  | c + 1, k, p, bg, q, bg', hp, h => by
    unfold qy_loop at h
    cases hx : F p (va_up bg (base + k) p) with
    | mk o b =>
      rw [hx] at h
      cases o with
      | none => simp at h
      | some z => exact qy_loop_le hF c (k + 1) z b q bg' (hF _ _ _ _ hx) h
theorem qy_run_le {cb : Nat → Nat} {n : Nat} : ∀ (d i : Nat) (bg : Nat → Nat) (q : Nat) (bg' : Nat → Nat), qy_run cb n d i bg = (some q, bg') → q ≤ n
  | 0, i, bg, q, bg', h => by simp [qy_run] at h
  | d + 1, i, bg, q, bg', h => by
    unfold qy_run at h
    by_cases hc : i < n ∧ cb i < 27 ∧ qy_has cb n i = true
    · rw [if_pos hc] at h
      refine qy_loop_le (fun p b z b' hz => qy_run_le d p b z b' hz) _ _ _ _ _ _ ?_ h
      obtain ⟨h1, h2, h3⟩ := hc
      by_cases hl : qy_let (cb i) = true
      · simp [qy_has, hl] at h3
        simp [hl]; omega
      · have hl' : qy_let (cb i) = false := by simpa using hl
        by_cases hm : qy_num (cb i) = true
        · simp [qy_has, hl', hm] at h3
          simp [hl', hm]; omega
        · have hm' : qy_num (cb i) = false := by simpa using hm
          simp [hl', hm']; omega
    · rw [if_neg hc] at h
      simp at h
theorem gn_nem1 {p : Nat} (h : p < 2 ^ 31) : ¬ nI p = -1 := fun q => by
  have h1 := nI_toInt h
  rw [q] at h1
  have h2 : (-1 : Int32).toInt = -1 := by decide
  rw [h2] at h1
  omega
theorem w_has_le {cb : Nat → Nat} {n i : Nat} (hn : n ≤ 60) (h1 : i < n) (h3 : qy_has cb n i = true) : i + (if qy_let (cb i) || qy_num (cb i) then 2 else 1) ≤ 60 := by
  by_cases hl : qy_let (cb i) = true
  · simp [qy_has, hl] at h3
    simp [hl]; omega
  · have hl' : qy_let (cb i) = false := by simpa using hl
    by_cases hm : qy_num (cb i) = true
    · simp [qy_has, hl', hm] at h3
      simp [hl', hm]; omega
    · have hm' : qy_num (cb i) = false := by simpa using hm
      simp [hl', hm']; omega
