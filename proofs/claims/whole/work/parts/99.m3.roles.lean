/-! The roles of the addresses. Printed by wip/whole/gen_roles.py. -/
/-- the kind of a cell: its class, or 100 and the length of the array -/
def rl_s (g : gh_F) (a : Nat) : Nat := match g a with
  | none => 99
  | some (.inr (c, _)) => c
  | some (.inl (_, n, _)) => 100 + n
theorem rl_so {g : gh_F} {a c : Nat} {fs : List Value} (h : g a = some (.inr (c, fs))) : rl_s g a = c := by unfold rl_s; rw [h]
theorem rl_sa {g : gh_F} {a n : Nat} {cA : ClassId} {x : vp_A} (h : g a = some (.inl (cA, n, x.2))) : rl_s g a = 100 + n := by unfold rl_s; rw [h]
/-- when it came: behind fR, fU, fN -/
def rl_b (fR fU fN : gh_F) (a : Nat) : Nat := (if fR a = none then 1 else 0) + (if fU a = none then 1 else 0) + (if fN a = none then 1 else 0)
def rc (r : Nat) : Nat := if r ≤ 18 then r - 1 else if r < 124 then 18 + (r - 100) % 3 else if r < 166 then 21 + (r - 130) % 3 else if 1000 ≤ r then 24 else 25 + (r - 200)
def rd (r : Nat) : Nat := if r ≤ 18 then 0 else if r < 124 then (r - 100) / 3 else if r < 166 then (r - 130) / 3 else if 1000 ≤ r then r - 1000 else 0
def rk (c d : Nat) : Nat := if c < 18 then c + 1 else if c < 21 then 100 + 3 * d + (c - 18) else if c < 24 then 130 + 3 * d + (c - 21) else 1000 + d
theorem rk_rc {r : Nat} (h : rU r) : rk (rc r) (rd r) = r ∧ rc r < 25 := by
  unfold rU at h
  rcases h with h | h | h | h
  · have e1 : rc r = r - 1 := if_pos h.2
    have e2 : rd r = 0 := if_pos h.2
    rw [e1, e2]
    unfold rk
    rw [if_pos (by omega)]
    omega
  · have e1 : rc r = 18 + (r - 100) % 3 := by unfold rc; rw [if_neg (by omega), if_pos (by omega)]
    have e2 : rd r = (r - 100) / 3 := by unfold rd; rw [if_neg (by omega), if_pos (by omega)]
    rw [e1, e2]
    unfold rk
    rw [if_neg (by omega), if_pos (by omega)]
    omega
  · have e1 : rc r = 21 + (r - 130) % 3 := by unfold rc; rw [if_neg (by omega), if_neg (by omega), if_pos (by omega)]
    have e2 : rd r = (r - 130) / 3 := by unfold rd; rw [if_neg (by omega), if_neg (by omega), if_pos (by omega)]
    rw [e1, e2]
    unfold rk
    rw [if_neg (by omega), if_neg (by omega), if_pos (by omega)]
    omega
  · have e1 : rc r = 24 := by unfold rc; rw [if_neg (by omega), if_neg (by omega), if_neg (by omega), if_pos (by omega)]
    have e2 : rd r = r - 1000 := by unfold rd; rw [if_neg (by omega), if_neg (by omega), if_neg (by omega), if_pos (by omega)]
    rw [e1, e2]
    unfold rk
    rw [if_neg (by omega), if_neg (by omega), if_neg (by omega)]
    omega
/-- how many of a case there are -/
def rn (c : Nat) : Nat := if c < 18 then 1 else if c < 21 then 8 else if c < 24 then 12 else 250
theorem rd_rn {r : Nat} (h : rU r) : rd r < rn (rc r) := by
  unfold rU at h
  rcases h with h | h | h | h
  · have e1 : rc r = r - 1 := if_pos h.2
    have e2 : rd r = 0 := if_pos h.2
    rw [e1, e2]
    unfold rn
    rw [if_pos (by omega)]
    decide
  · have e1 : rc r = 18 + (r - 100) % 3 := by unfold rc; rw [if_neg (by omega), if_pos (by omega)]
    have e2 : rd r = (r - 100) / 3 := by unfold rd; rw [if_neg (by omega), if_pos (by omega)]
    rw [e1, e2]
    unfold rn
    rw [if_neg (by omega), if_pos (by omega)]
    omega
  · have e1 : rc r = 21 + (r - 130) % 3 := by unfold rc; rw [if_neg (by omega), if_neg (by omega), if_pos (by omega)]
    have e2 : rd r = (r - 130) / 3 := by unfold rd; rw [if_neg (by omega), if_neg (by omega), if_pos (by omega)]
    rw [e1, e2]
    unfold rn
    rw [if_neg (by omega), if_neg (by omega), if_pos (by omega)]
    omega
  · have e1 : rc r = 24 := by unfold rc; rw [if_neg (by omega), if_neg (by omega), if_neg (by omega), if_pos (by omega)]
    have e2 : rd r = r - 1000 := by unfold rd; rw [if_neg (by omega), if_neg (by omega), if_neg (by omega), if_pos (by omega)]
    rw [e1, e2]
    show r - 1000 < 250
    omega
theorem rc_3 {d t : Nat} (hd : d < 8) (ht : t < 3) : rc (100 + t + 3 * d) = 18 + t ∧ rd (100 + t + 3 * d) = d := by
  constructor
  · unfold rc; rw [if_neg (by omega), if_pos (by omega)]; omega
  · unfold rd; rw [if_neg (by omega), if_pos (by omega)]; omega
theorem rc_4 {d t : Nat} (hd : d < 12) (ht : t < 3) : rc (130 + t + 3 * d) = 21 + t ∧ rd (130 + t + 3 * d) = d := by
  constructor
  · unfold rc; rw [if_neg (by omega), if_neg (by omega), if_pos (by omega)]; omega
  · unfold rd; rw [if_neg (by omega), if_neg (by omega), if_pos (by omega)]; omega
theorem rc_5 {j : Nat} : rc (1000 + j) = 24 ∧ rd (1000 + j) = j := by
  constructor
  · unfold rc; rw [if_neg (by omega), if_neg (by omega), if_neg (by omega), if_pos (by omega)]
  · unfold rd; rw [if_neg (by omega), if_neg (by omega), if_neg (by omega), if_pos (by omega)]; omega
/-- the addresses, by case and number -/
def rl_A (L : List Nat) (XR KR IR XU KU IU XS : Nat → Nat) (c d : Nat) : Nat := if c < 18 then L.getD c 0 else if c = 18 then XR d else if c = 19 then KR d else if c = 20 then IR d else if c = 21 then XU d else if c = 22 then KU d else if c = 23 then IU d else if c = 24 then XS d else L.getD (c - 25 + 18) 0
def rl_S : List Nat := [4, 116, 1, 116, 116, 0, 220, 3, 124, 8, 119, 2, 160, 280, 2, 160, 280, 101, 1, 116, 116, 1, 116, 116, 5]
def rl_B : List Nat := [9, 2, 0, 0, 0, 9, 9, 9, 9, 9, 9, 9, 2, 2, 9, 3, 3, 9, 1, 1, 1, 2, 2, 2, 9]
/-- cases with the same kind and the same time -/
def rl_T : List (Nat × Nat) := [(3, 4), (11, 14), (19, 20), (1, 22), (1, 23), (22, 23)]
def rl_ok (c c2 : Nat) : Bool := decide (c2 ≤ c) || (decide (¬ rl_S.getD c 0 = rl_S.getD c2 0) || ((decide (¬ rl_B.getD c 0 = 9) && (decide (¬ rl_B.getD c2 0 = 9) && decide (¬ rl_B.getD c 0 = rl_B.getD c2 0))) || rl_T.any (fun q => decide (q = (c, c2)))))
theorem rl_tab1 : ∀ c, c < 25 → ∀ c2, c2 < 25 → rl_ok c c2 = true := by decide +kernel
theorem rl_tab0 (c : Nat) (hc : c < 25) (c2 : Nat) (hc2 : c2 < 25) : c2 ≤ c ∨ ¬ rl_S.getD c 0 = rl_S.getD c2 0 ∨ (¬ rl_B.getD c 0 = 9 ∧ ¬ rl_B.getD c2 0 = 9 ∧ ¬ rl_B.getD c 0 = rl_B.getD c2 0) ∨ (c, c2) ∈ rl_T := by
  have h := rl_tab1 c hc c2 hc2
  unfold rl_ok at h
  rcases (Bool.or_eq_true _ _).mp h with h | h
  · exact Or.inl (of_decide_eq_true h)
  · rcases (Bool.or_eq_true _ _).mp h with h | h
    · exact Or.inr (Or.inl (of_decide_eq_true h))
    · rcases (Bool.or_eq_true _ _).mp h with h | h
      · obtain ⟨h1, h2⟩ := (Bool.and_eq_true _ _).mp h
        obtain ⟨h2, h3⟩ := (Bool.and_eq_true _ _).mp h2
        exact Or.inr (Or.inr (Or.inl ⟨of_decide_eq_true h1, of_decide_eq_true h2, of_decide_eq_true h3⟩))
      · obtain ⟨q, h1, h2⟩ := List.any_eq_true.mp h
        rw [of_decide_eq_true h2] at h1
        exact Or.inr (Or.inr (Or.inr h1))
theorem rl_tab (c : Nat) (hc : c < 25) (c2 : Nat) (hc2 : c2 < 25) (hlt : c < c2) (hS : rl_S.getD c 0 = rl_S.getD c2 0) (hB : rl_B.getD c 0 = 9 ∨ rl_B.getD c2 0 = 9 ∨ rl_B.getD c 0 = rl_B.getD c2 0) : (c, c2) ∈ rl_T := by
  rcases rl_tab0 c hc c2 hc2 with h | h | h | h
  · omega
  · exact absurd hS h
  · rcases hB with z | z | z
    · exact absurd z h.1
    · exact absurd z h.2.1
    · exact absurd z h.2.2
  · exact h
theorem rl_inj {A : Nat → Nat → Nat} {g fR fU fN : gh_F} (hS : ∀ c d, c < 25 → d < rn c → rl_s g (A c d) = rl_S.getD c 0) (hB : ∀ c d, c < 25 → d < rn c → rl_B.getD c 0 ≠ 9 → rl_b fR fU fN (A c d) = rl_B.getD c 0) (hT : ∀ c c2 d d2, (c, c2) ∈ rl_T → d < rn c → d2 < rn c2 → A c d ≠ A c2 d2) (hI : ∀ c d d2, 18 ≤ c → c < 25 → d < d2 → d2 < rn c → A c d ≠ A c d2) {c d c2 d2 : Nat} (hc : c < 25) (hd : d < rn c) (hc2 : c2 < 25) (hd2 : d2 < rn c2) (h : A c d = A c2 d2) : c = c2 ∧ d = d2 := by
  have lt : ∀ {c d c2 d2 : Nat}, c < 25 → d < rn c → c2 < 25 → d2 < rn c2 → A c d = A c2 d2 → ¬ c < c2 := by
    intro c d c2 d2 hc hd hc2 hd2 h hlt
    refine hT c c2 d d2 (rl_tab c hc c2 hc2 hlt ?_ ?_) hd hd2 h
    · rw [← hS c d hc hd, ← hS c2 d2 hc2 hd2, h]
    · by_cases h1 : rl_B.getD c 0 = 9
      · exact Or.inl h1
      · by_cases h2 : rl_B.getD c2 0 = 9
        · exact Or.inr (Or.inl h2)
        · exact Or.inr (Or.inr (by rw [← hB c d hc hd h1, ← hB c2 d2 hc2 hd2 h2, h]))
  have e : c = c2 := by
    have h1 := lt hc hd hc2 hd2 h
    have h2 := lt hc2 hd2 hc hd h.symm
    omega
  subst e
  refine ⟨rfl, ?_⟩
  by_cases h18 : c < 18
  · have e1 : rn c = 1 := if_pos h18
    omega
  · rcases Nat.lt_trichotomy d d2 with h1 | h1 | h1
    · exact absurd h (hI c d d2 (by omega) hc h1 hd2)
    · exact h1
    · exact absurd h.symm (hI c d2 d (by omega) hc h1 hd)
/-- roles out of addresses that are apart -/
theorem rl_make {Z : Nat → Nat} {g : gh_F} {mm : Nat → Prop} (hinj : ∀ r r2, rU r → rU r2 → Z r = Z r2 → r = r2) (hmz : ∀ r, rU r → ¬ mm (Z r)) (hmg : ∀ a, mm a → g a ≠ none) (hzg : ∀ r, rU r → g (Z r) ≠ none) : ∃ ρ : Nat → Nat, rZ ρ Z ∧ (∀ a, mm a → ρ a = 300) ∧ (∀ a, ¬ mm a → (∀ r, rU r → Z r ≠ a) → ρ a = 0) ∧ ∀ q, g q = none → ρ q = 0 := by
  classical
  refine ⟨fun a => if h : ∃ r, rU r ∧ Z r = a then Classical.choose h else if mm a then 300 else 0, fun r hr => ?_, fun a ha => ?_, fun a h1 h2 => ?_, fun q hq => ?_⟩
  · have hx : ∃ r2, rU r2 ∧ Z r2 = Z r := ⟨r, hr, rfl⟩
    show (if h : ∃ r2, rU r2 ∧ Z r2 = Z r then Classical.choose h else _) = r
    rw [dif_pos hx]
    have hs := Classical.choose_spec hx
    exact hinj _ _ hs.1 hr hs.2
  · show (if h : ∃ r2, rU r2 ∧ Z r2 = a then Classical.choose h else _) = 300
    rw [dif_neg (fun ⟨r, hr, e⟩ => hmz r hr (by rw [e]; exact ha)), if_pos ha]
  · show (if h : ∃ r2, rU r2 ∧ Z r2 = a then Classical.choose h else _) = 0
    rw [dif_neg (fun ⟨r, hr, e⟩ => h2 r hr e), if_neg h1]
  · show (if h : ∃ r2, rU r2 ∧ Z r2 = q then Classical.choose h else _) = 0
    rw [dif_neg (fun ⟨r, hr, e⟩ => hzg r hr (by rw [e]; exact hq)), if_neg (fun z => hmg q z hq)]
