/-! The model's run without a heap: one turn, frames. -/
/-- a predicate of states that holds where a turn of act leads to states in which it holds -/
def ms_cl (l : Launch) (E : gh_E) (a : Nat) (ad : Nat → Nat) (RW : (Nat → Int32) → mo_I → mo_J → Prop) : Prop := ∀ (S : Nat → Int32) (I : mo_I) (J : mo_J) (w c : Nat) (Q : gh_F → gh_F → Prop), S 49 = -1 → S 45 = nI (w + 1) → w < 16 → c < 60 → I 44 w = nI c → (∀ sz f, mo_R E f a ad S I J → gh_M l y_Mo_act b_Mo_act 4 none E sz [.ref a, .int (nI c)] f { frames := 11, cells := 0, slots := 0, locals := 360 } (fun r g => r = none ∧ Q f g)) → (∀ f g, Q f g → ∃ S2 I2 J2, mo_X E f g a ad S2 I2 J2 ∧ RW S2 I2 J2) → RW S I J
/-- the part c holds the bytes from c to e, and its parts lie apart in it -/
def qn (cb bg : Nat → Nat) (N : Nat) : Nat → Nat → Nat → Prop
  | 0, _, _ => False
  | w + 1, c, e => (c < e ∧ e ≤ N ∧ cb c ≤ 26 ∧ (cb c = 1 ∨ cb c = 6 ∨ cb c = 16 → c + 1 < N ∧ 97 ≤ cb (c + 1) ∧ cb (c + 1) ≤ 122) ∧ (cb c = 2 ∨ cb c = 5 → c + 1 < N ∧ cb (c + 1) < 256)) ∧ ∃ en : Nat → Nat, (∀ i, i < qy_parts (cb c) → c < bg (c * 3 + i) ∧ en i ≤ e ∧ qn cb bg N w (bg (c * 3 + i)) (en i)) ∧ ∀ i j, i < j → j < qy_parts (cb c) → en i ≤ bg (c * 3 + j)
theorem qn_o {cb bg : Nat → Nat} {N w c e : Nat} : qn cb bg N (w + 1) c e ↔ (c < e ∧ e ≤ N ∧ cb c ≤ 26 ∧ (cb c = 1 ∨ cb c = 6 ∨ cb c = 16 → c + 1 < N ∧ 97 ≤ cb (c + 1) ∧ cb (c + 1) ≤ 122) ∧ (cb c = 2 ∨ cb c = 5 → c + 1 < N ∧ cb (c + 1) < 256)) ∧ ∃ en : Nat → Nat, (∀ i, i < qy_parts (cb c) → c < bg (c * 3 + i) ∧ en i ≤ e ∧ qn cb bg N w (bg (c * 3 + i)) (en i)) ∧ ∀ i j, i < j → j < qy_parts (cb c) → en i ≤ bg (c * 3 + j) := Iff.rfl
theorem qn.qw {cb bg : Nat → Nat} {N : Nat} : ∀ {w c e : Nat}, qn cb bg N w c e → qw cb bg N w c := by
  intro w
  induction w with
  | zero => intro c e h; exact h.elim
  | succ w ih =>
    intro c e h
    obtain ⟨⟨h1, h2, h3, h4, h5⟩, en, h6, h7⟩ := h
    exact ⟨by omega, h3, h4, h5, fun i hi => ih (h6 i hi).2.2⟩
theorem qn.lt {cb bg : Nat → Nat} {N w c e : Nat} (h : qn cb bg N w c e) : c < e ∧ e ≤ N := by
  cases w with
  | zero => exact h.elim
  | succ w => exact ⟨h.1.1, h.1.2.1⟩
/-- what a run keeps -/
def mz (cb bg : Nat → Nat) (b0 pb : Nat) (S : Nat → Int32) (I : mo_I) (J : mo_J) (φ nv np : Nat) : Prop := (S 11 = nI nv ∧ S 12 = nI np ∧ S 48 = nI φ ∧ S 49 = -1) ∧ (φ < 1000 ∧ 29 ≤ nv ∧ b0 ≤ nv ∧ pb ≤ np) ∧ mc I J b0 nv pb np ∧ (∀ j, j < 60 → I 33 j = nI (cb j)) ∧ ∀ j, j < 180 → I 34 j = nI (bg j)
/-- only the cells of the parts D, and what lies above w on the path, may have changed -/
def mfr (D : Nat → Prop) (w : Nat) (S : Nat → Int32) (I : mo_I) (S2 : Nat → Int32) (I2 : mo_I) : Prop := (∀ k, k < 11 ∨ (12 < k ∧ k ≠ 16 ∧ (k < 45 ∨ 49 < k)) → S2 k = S k) ∧ (I2 33 = I 33 ∧ I2 34 = I 34 ∧ I2 50 = I 50 ∧ I2 19 = I 19 ∧ I2 29 = I 29) ∧ (∀ j, j ≤ w → I2 44 j = I 44 j) ∧ (∀ k, 35 ≤ k → k ≤ 40 → ∀ j, ¬ D j → I2 k j = I k j) ∧ ∀ k, 41 ≤ k → k ≤ 43 → ∀ j, ¬ D (j / (if k = 41 then 16 else 9)) → I2 k j = I k j
theorem mfr.tr {D D1 D2 : Nat → Prop} {w w1 : Nat} {S S1 S2 : Nat → Int32} {I I1 I2 : mo_I} (h : mfr D w S I S1 I1) (h1 : mfr D1 w1 S1 I1 S2 I2) (hw : w ≤ w1) (hD : ∀ j, D j → D2 j) (hD1 : ∀ j, D1 j → D2 j) : mfr D2 w S I S2 I2 :=
  ⟨fun k hk => (h1.1 k hk).trans (h.1 k hk), ⟨h1.2.1.1.trans h.2.1.1, h1.2.1.2.1.trans h.2.1.2.1, h1.2.1.2.2.1.trans h.2.1.2.2.1, h1.2.1.2.2.2.1.trans h.2.1.2.2.2.1, h1.2.1.2.2.2.2.trans h.2.1.2.2.2.2⟩, fun j hj => (h1.2.2.1 j (by omega)).trans (h.2.2.1 j hj), fun k a b j hj => (h1.2.2.2.1 k a b j (fun z => hj (hD1 j z))).trans (h.2.2.2.1 k a b j (fun z => hj (hD j z))), fun k a b j hj => (h1.2.2.2.2 k a b j (fun z => hj (hD1 _ z))).trans (h.2.2.2.2 k a b j (fun z => hj (hD _ z)))⟩
theorem mct.fr {c w : Nat} {D : Nat → Prop} {C : Nat → Int32} {S S2 : Nat → Int32} {I I2 : mo_I} (h : mct c w D C S I S2 I2) : mfr (fun j => j = c ∨ D j) w S I S2 I2 :=
  ⟨fun k hk => h.1 k (by omega) (by omega) (by omega) (by omega) (by omega) (by omega), ⟨h.2.1 33 (by decide) (by decide) (by decide) (by decide) (by decide), h.2.1 34 (by decide) (by decide) (by decide) (by decide) (by decide), h.2.1 50 (by decide) (by decide) (by decide) (by decide) (by decide), h.2.1 19 (by decide) (by decide) (by decide) (by decide) (by decide), h.2.1 29 (by decide) (by decide) (by decide) (by decide) (by decide)⟩, h.2.2.2.1, fun k a b j hj => (h.2.2.2.2 k a b).1 j (fun z => hj (Or.inl z)) (fun z => hj (Or.inr z)), fun k a b j hj => h.2.2.1 k a b j (fun z => hj (Or.inl z))⟩
theorem mct.ma {c w : Nat} {D : Nat → Prop} {C : Nat → Int32} {S S2 : Nat → Int32} {I I2 : mo_I} {J : mo_J} {b0 nv pb np : Nat} (h : mct c w D C S I S2 I2) : ma I J I2 J b0 nv pb np := ma_other (fun k hk => h.2.1 k (by omega) (by omega) (by omega) (by omega) (by omega))
theorem mct.mz {cb bg : Nat → Nat} {b0 pb c w : Nat} {D : Nat → Prop} {C : Nat → Int32} {S S2 : Nat → Int32} {I I2 : mo_I} {J : mo_J} {φ φ2 nv np : Nat} (h : mct c w D C S I S2 I2) (hz : mz cb bg b0 pb S I J φ nv np) (h48 : S2 48 = nI φ2) (h49 : S2 49 = -1) (hφ : φ2 ≤ φ) (hp8 : np ≤ 8800) : mz cb bg b0 pb S2 I2 J φ2 nv np := by
  obtain ⟨⟨a1, a2, a3, a4⟩, ⟨b1, b2, b3, b4⟩, hc, h33, h34⟩ := hz
  exact ⟨⟨(h.1 11 (by decide) (by decide) (by decide) (by decide) (by decide) (by decide)).trans a1, (h.1 12 (by decide) (by decide) (by decide) (by decide) (by decide) (by decide)).trans a2, h48, h49⟩, ⟨by omega, b2, b3, b4⟩, hc.keep h.ma (Nat.le_refl _) (Nat.le_refl _) hp8, fun j hj => by rw [h.fr.2.1.1]; exact h33 j hj, fun j hj => by rw [h.fr.2.1.2.1]; exact h34 j hj⟩
