/-! Places in a text; what the model's peek sees. -/
theorem rb_ge {tx : Nat → Nat} {n : Nat} : ∀ {m p : Nat}, p ≤ rb tx n m p := by
  intro m
  induction m with
  | zero => intro p; exact Nat.le_refl _
  | succ m ih =>
    intro p
    unfold rb
    split
    · have := ih (p := p + 1); omega
    · exact Nat.le_refl _
theorem rb_le {tx : Nat → Nat} {n : Nat} : ∀ {m p : Nat}, p ≤ n → rb tx n m p ≤ n := by
  intro m
  induction m with
  | zero => intro p h; exact h
  | succ m ih =>
    intro p h
    unfold rb
    split
    · rename_i h32
      have : p < n := by
        by_cases hp : p < n
        · exact hp
        · unfold sg at h32; rw [if_neg hp] at h32; cases h32
      exact ih (by omega)
    · exact h
theorem rbl_ge {tx : Nat → Nat} {n p : Nat} : p ≤ rbl tx n p := rb_ge
theorem rbl_le {tx : Nat → Nat} {n p : Nat} (h : p ≤ n) : rbl tx n p ≤ n := rb_le h
theorem sg_lt {tx : Nat → Nat} {n p : Nat} (h : sg tx n p ≠ 0) : p < n := by
  by_cases hp : p < n
  · exact hp
  · exact absurd (by unfold sg; rw [if_neg hp]) h
/-- the text in the model -/
def rT (tx : Nat → Nat) (n : Nat) (S : Nat → Int32) (I : mo_I) : Prop := S 20 = nI n ∧ n ≤ 120 ∧ ∀ j, j < n → I 19 j = nI (tx j) ∧ 32 ≤ tx j ∧ tx j ≤ 126
theorem rT.ch {tx : Nat → Nat} {n : Nat} {S : Nat → Int32} {I : mo_I} (h : rT tx n S I) (p : Nat) : sg tx n p < 127 ∧ (p < n → sg tx n p = tx p ∧ 32 ≤ tx p) := by
  unfold sg
  by_cases hp : p < n
  · rw [if_pos hp]; have := h.2.2 p hp; exact ⟨by omega, fun _ => ⟨rfl, this.2.1⟩⟩
  · rw [if_neg hp]; exact ⟨by decide, fun z => absurd z hp⟩
theorem rT.keep {tx : Nat → Nat} {n : Nat} {S S2 : Nat → Int32} {I I2 : mo_I} (h : rT tx n S I) (h20 : S2 20 = S 20) (h19 : I2 19 = I 19) : rT tx n S2 I2 := ⟨h20.trans h.1, h.2.1, fun j hj => by rw [h19]; exact h.2.2 j hj⟩
def pek (c : Nat) : Int32 := if c = 0 then -1 else nI c
theorem pek_eq {c k : Nat} (hc : c < 1000) (hk : 0 < k) (hk2 : k < 1000) : pek c = nI k ↔ c = k := by
  unfold pek
  by_cases h : c = 0
  · rw [if_pos h]
    constructor
    · intro z
      have h1 := congrArg Int32.toInt z
      rw [nI_toInt (by omega)] at h1
      have h2 : (-1 : Int32).toInt = -1 := by decide
      omega
    · intro z; omega
  · rw [if_neg h]; exact nI_eq (by omega) (by omega)
theorem pek_lt {c k : Nat} (hc : c < 1000) (hk : 0 < k) (hk2 : k < 1000) : pek c < nI k ↔ c < k := by
  unfold pek
  rw [Int32.lt_iff_toInt_lt, nI_toInt (by omega)]
  by_cases h : c = 0
  · rw [if_pos h]
    have h2 : (-1 : Int32).toInt = -1 := by decide
    omega
  · rw [if_neg h, nI_toInt (by omega)]; omega
theorem pek_le {c k : Nat} (hc : c < 1000) (hk : 0 < k) (hk2 : k < 1000) : nI k < pek c ↔ k < c := by
  unfold pek
  rw [Int32.lt_iff_toInt_lt, nI_toInt (by omega)]
  by_cases h : c = 0
  · rw [if_pos h]
    have h2 : (-1 : Int32).toInt = -1 := by decide
    omega
  · rw [if_neg h, nI_toInt (by omega)]; omega
theorem pek_0 {c : Nat} (hc : c < 1000) : pek c < 0 ↔ c = 0 := by
  unfold pek
  by_cases h : c = 0
  · rw [if_pos h]; exact ⟨fun _ => h, fun _ => by decide⟩
  · rw [if_neg h]; exact ⟨fun z => absurd z (nI_pos (by omega)), fun z => absurd z h⟩
theorem c_Mo_pk (l : Launch) (E : gh_E) (sz : Nat) (f : gh_F) (a : Nat) (ad : Nat → Nat) (S : Nat → Int32) (I : Nat → Nat → Int32) (J : Nat → Nat → Int64) (tx : Nat → Nat) (n p : Nat) (hX : mo_R E f a ad S I J) (hT : rT tx n S I) (h21 : S 21 = nI p) (hp : p ≤ n) : gh_M l y_Mo_peek b_Mo_peek 1 (some .int) E sz [.ref a] f { frames := 3, cells := 0, slots := 0, locals := 60 } (fun r g => r = some (.int (pek (sg tx n p))) ∧ g = f) := by
  refine gh_weak (c_Mo_peek l E sz f a ad S I J p n hX h21 hT.1 hT.2.1 (by have := hT.2.1; omega)) (fun r g h => ⟨?_, h.2⟩)
  rw [h.1]
  unfold pek sg
  by_cases hpn : p < n
  · have h3 := hT.2.2 p hpn
    rw [if_pos hpn, if_pos hpn, if_neg (by omega), h3.1]
  · rw [if_neg hpn, if_neg hpn, if_pos rfl]
