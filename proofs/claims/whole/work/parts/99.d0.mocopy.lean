/-! A value's copy in another region, without a heap. -/
def cp_t (X : vt) : Nat := vt_c X + (vt_q X).length
def cp_c (X : vt) (j : Nat) : vt := if j < vt_c X then vt_s X j else vt_t ((vt_q X).getD (j - vt_c X) [])
/-- what the index g of a copy shows: a constant, or one of the copies -/
def cp_l (I0 : mo_I) (J0 : mo_J) (b1 nv1 pb1 np1 b nv : Nat) (DX : Nat → vt) (g : Nat) (Z : vt) : Prop := (g < 29 ∧ mw I0 J0 b1 nv1 pb1 np1 g Z) ∨ (b ≤ g ∧ g < nv ∧ DX g = Z)
def cp_B (I0 : mo_I) (J0 : mo_J) (b1 nv1 pb1 np1 b nv : Nat) (I : mo_I) (J : mo_J) (og : Nat → Nat) (DX : Nat → vt) : Prop := ∀ i, b ≤ i → i < nv → mw I0 J0 b1 nv1 pb1 np1 (og i) (DX i) ∧ I 13 (i - b) = nI (og i) ∧ (I 1 i = I0 1 (og i) ∧ I 3 i = I0 3 (og i) ∧ I 4 i = I0 4 (og i) ∧ I 5 i = I0 5 (og i)) ∧ (J 2 i = J0 2 (og i) ∧ J 6 i = J0 6 (og i) ∧ J 7 i = J0 7 (og i) ∧ J 8 i = J0 8 (og i))
def cp_C (I0 : mo_I) (J0 : mo_J) (b1 nv1 pb1 np1 b nv pb : Nat) (I : mo_I) (DX : Nat → vt) (F : Nat → Nat) (G : Nat → Nat → Nat) (i lim top : Nat) : Prop := I 9 i = nI (F i) ∧ (pb ≤ F i ∧ F i + cp_t (DX i) ≤ top) ∧ ∀ j, j < lim → I 10 (F i + j) = nI (G i j) ∧ cp_l I0 J0 b1 nv1 pb1 np1 b nv DX (G i j) (cp_c (DX i) j)
def cp_F (I0 : mo_I) (J0 : mo_J) (I : mo_I) (J : mo_J) (b nv pb np : Nat) : Prop := (∀ k v, (k = 1 ∨ k = 3 ∨ k = 4 ∨ k = 5 ∨ k = 9) → v < b ∨ nv ≤ v → I k v = I0 k v) ∧ (∀ k v, (k = 2 ∨ k = 6 ∨ k = 7 ∨ k = 8) → v < b ∨ nv ≤ v → J k v = J0 k v) ∧ (∀ p, p < pb ∨ np ≤ p → I 10 p = I0 10 p) ∧ ∀ k, k ≠ 1 → k ≠ 3 → k ≠ 4 → k ≠ 5 → k ≠ 9 → k ≠ 10 → k ≠ 13 → I k = I0 k
/-- the constants are no lists and no objects -/
theorem mc.kind {I : mo_I} {J : mo_J} {b0 nv pb np g : Nat} (h : mc I J b0 nv pb np) (hg : g < 29) : ∃ k, k ≤ 4 ∧ I 1 g = nI k := by
  rcases (show g = 0 ∨ g = 1 ∨ g = 2 ∨ 3 ≤ g by omega) with rfl | rfl | rfl | h3
  · exact ⟨0, by decide, (mv_o.mp h.1.1).2.1⟩
  · exact ⟨1, by decide, (mv_o.mp h.2.1.1).2.1⟩
  · exact ⟨2, by decide, (mv_o.mp h.2.2.1.1).2.1⟩
  · have := (h.2.2.2 (g - 3) (by omega)).2.1
    rw [show 3 + (g - 3) = g by omega] at this
    exact ⟨4, by decide, this⟩
section
variable {I0 : mo_I} {J0 : mo_J} {b1 nv1 pb1 np1 b nv pb np : Nat} {I : mo_I} {J : mo_J} {og : Nat → Nat} {DX : Nat → vt} {F : Nat → Nat} {G : Nat → Nat → Nat}
/-- a copy shows what it was made of -/
theorem cp_mv (hc0 : mc I0 J0 b1 nv1 pb1 np1) (hb : 29 ≤ b) (hnv : nv ≤ 760) (hp8 : np ≤ 8800) (hB : cp_B I0 J0 b1 nv1 pb1 np1 b nv I J og DX) (hC : ∀ i, b ≤ i → i < nv → 5 ≤ vt_k (DX i) → cp_C I0 J0 b1 nv1 pb1 np1 b nv pb I DX F G i (cp_t (DX i)) np) (hF : cp_F I0 J0 I J b nv pb np) : ∀ {n g : Nat} {Z : vt}, cp_l I0 J0 b1 nv1 pb1 np1 b nv DX g Z → vt_h Z < n → mv I J b nv pb np n g Z := by
  intro n
  induction n with
  | zero => intro g Z _ h; omega
  | succ n ih =>
    intro g Z hg hn
    rcases hg with ⟨h29, hg⟩ | ⟨h1, h2, h3⟩
    · obtain ⟨a1, a2, a3, a4, a5, a6, a7, a8⟩ := mv_o.mp hg.1
      have e : ∀ k, (k = 1 ∨ k = 3 ∨ k = 4 ∨ k = 5 ∨ k = 9) → I k g = I0 k g := fun k hk => hF.1 k g hk (Or.inl (by omega))
      have eJ : ∀ k, (k = 2 ∨ k = 6 ∨ k = 7 ∨ k = 8) → J k g = J0 k g := fun k hk => hF.2.1 k g hk (Or.inl (by omega))
      refine ⟨⟨Or.inl h29, by omega⟩, (e 1 (by omega)).trans a2, (eJ 2 (by omega)).trans a3, (e 3 (by omega)).trans a4, ⟨a5.1, fun k hk => ?_⟩, (e 4 (by omega)).trans a6, (e 5 (by omega)).trans a7, fun h5 => ?_⟩
      · rw [eJ 6 (by omega), eJ 7 (by omega), eJ 8 (by omega)]; exact a5.2 k hk
      · obtain ⟨k, k1, k2⟩ := hc0.kind h29
        rw [a2] at k2
        have h6 := (vo_o.mp hg.2).1
        have := (nI_eq (by omega) (by omega)).mp k2
        omega
    · subst h3
      obtain ⟨hw, b1', ⟨c1, c3, c4, c5⟩, c2, c6, c7, c8⟩ := hB g h1 h2
      obtain ⟨a1, a2, a3, a4, a5, a6, a7, a8⟩ := mv_o.mp hw.1
      have hvo := vo_o.mp hw.2
      refine ⟨⟨Or.inr ⟨h1, h2⟩, by omega⟩, c1.trans a2, c2.trans a3, c3.trans a4, ⟨a5.1, fun k hk => ?_⟩, c4.trans a6, c5.trans a7, fun h5 => ?_⟩
      · rw [c6, c7, c8]; exact a5.2 k hk
      · obtain ⟨f1, ⟨f2, f3⟩, f4⟩ := hC g h1 h2 h5
        refine ⟨F g, G g, fun j => G g (vt_c (DX g) + j), f1, ⟨f2, by unfold cp_t at f3; omega, hp8⟩, fun j hj => ?_, fun j hj => ?_⟩
        · obtain ⟨g1, g2⟩ := f4 j (by unfold cp_t; omega)
          refine ⟨g1, ih (Z := vt_s (DX g) j) ?_ ?_⟩
          · unfold cp_c at g2; rw [if_pos hj] at g2; exact g2
          · have := (hvo.2.2.2.2.2.2.2.2.2.2.2 j hj).1; omega
        · obtain ⟨g1, g2⟩ := f4 (vt_c (DX g) + j) (by unfold cp_t; omega)
          rw [Nat.add_assoc]
          refine ⟨g1, ?_⟩
          unfold cp_c at g2
          rw [if_neg (by omega), Nat.add_sub_cancel_left] at g2
          have hq := hvo.2.2.2.2.1
          have hc1 : 0 < vt_c (DX g) := by split at hq <;> omega
          have hh := (hvo.2.2.2.2.2.2.2.2.2.2.2 0 hc1).1
          have hn2 : 0 < n := by omega
          obtain ⟨d1, d2, d3, d4, d5, d6, d7, -⟩ : mv I J b nv pb np (n - 1 + 1) (G g (vt_c (DX g) + j)) (vt_t ((vt_q (DX g)).getD j [])) := by
            rw [show n - 1 + 1 = n by omega]
            exact ih g2 hn2
          exact ⟨d1, d2, d3, d4, d5, d6, d7⟩
theorem cp_mw (hc0 : mc I0 J0 b1 nv1 pb1 np1) (hb : 29 ≤ b) (hnv : nv ≤ 760) (hp8 : np ≤ 8800) (hB : cp_B I0 J0 b1 nv1 pb1 np1 b nv I J og DX) (hC : ∀ i, b ≤ i → i < nv → 5 ≤ vt_k (DX i) → cp_C I0 J0 b1 nv1 pb1 np1 b nv pb I DX F G i (cp_t (DX i)) np) (hF : cp_F I0 J0 I J b nv pb np) {g : Nat} {Z : vt} (hg : cp_l I0 J0 b1 nv1 pb1 np1 b nv DX g Z) : mw I J b nv pb np g Z := by
  have hv : vo 8 Z := by
    rcases hg with h | ⟨h1, h2, h3⟩
    · exact h.2.2
    · rw [← h3]; exact (hB g h1 h2).1.2
  exact ⟨cp_mv hc0 hb hnv hp8 hB hC hF hg (by have := (vo_o.mp hv).2.2.2.2.2.2.2.2.1.1; omega), hv⟩
end
/-! How much room a copy takes. -/
def cp_s (DX : Nat → vt) (c : Nat) : Nat → Nat
  | 0 => 0
  | m + 1 => cp_s DX c m + (2 * vt_w (DX (c + m)) - 2)
theorem cp_s_first {DX : Nat → vt} {c : Nat} : ∀ {m : Nat}, cp_s DX c (m + 1) = (2 * vt_w (DX c) - 2) + cp_s DX (c + 1) m := by
  intro m
  induction m with
  | zero => show 0 + (2 * vt_w (DX (c + 0)) - 2) = _; rw [Nat.add_zero]; show _ = _ + 0; omega
  | succ m ih =>
    show cp_s DX c (m + 1) + (2 * vt_w (DX (c + (m + 1))) - 2) = (2 * vt_w (DX c) - 2) + (cp_s DX (c + 1) m + (2 * vt_w (DX (c + 1 + m)) - 2))
    rw [ih, show c + (m + 1) = c + 1 + m by omega]
    omega
theorem cp_s_congr {DX DY : Nat → vt} {c : Nat} : ∀ {m : Nat}, (∀ i, c ≤ i → i < c + m → DY i = DX i) → cp_s DY c m = cp_s DX c m := by
  intro m
  induction m with
  | zero => intro _; rfl
  | succ m ih =>
    intro h
    show cp_s DY c m + (2 * vt_w (DY (c + m)) - 2) = cp_s DX c m + (2 * vt_w (DX (c + m)) - 2)
    rw [ih (fun i h1 h2 => h i h1 (by omega)), h (c + m) (by omega) (by omega)]
def cp_r (X : vt) : Nat → Nat
  | 0 => 0
  | m + 1 => cp_r X m + (2 * vt_w (cp_c X m) - 1)
theorem cp_r_le {X : vt} : ∀ {m k : Nat}, k ≤ m → cp_r X k ≤ cp_r X m := by
  intro m
  induction m with
  | zero => intro k h; rw [Nat.le_zero.mp h]; exact Nat.le_refl _
  | succ m ih =>
    intro k h
    by_cases e : k = m + 1
    · subst e; exact Nat.le_refl _
    · exact Nat.le_trans (ih (by omega)) (Nat.le_add_right _ _)
theorem vt_ws_pos {X : vt} : ∀ {m : Nat}, 1 ≤ vt_ws X m := by
  intro m
  induction m with
  | zero => exact Nat.le_refl _
  | succ m ih => unfold vt_ws; omega
theorem cp_r_items {X : vt} {n : Nat} (hv : vo (n + 1) X) : ∀ {m : Nat}, m ≤ vt_c X → cp_r X m + m = 2 * vt_ws X m - 2 := by
  intro m
  induction m with
  | zero => intro _; rfl
  | succ m ih =>
    intro hm
    have h1 := ih (by omega)
    have hs := (vo_o.mp hv).2.2.2.2.2.2.2.2.2.2.2 m (by omega)
    have hw : 1 ≤ vt_w (vt_s X m) := by
      cases n with
      | zero => exact hs.2.elim
      | succ n => rw [(vo_o.mp hs.2).2.2.2.2.2.2.2.2.2.1]; exact vt_ws_pos
    have e1 : cp_r X (m + 1) = cp_r X m + (2 * vt_w (vt_s X m) - 1) := by
      show cp_r X m + (2 * vt_w (cp_c X m) - 1) = _
      unfold cp_c; rw [if_pos (by omega)]
    have e2 : vt_ws X (m + 1) = vt_ws X m + vt_w (vt_s X m) := rfl
    have := vt_ws_pos (X := X) (m := m)
    omega
theorem cp_r_keys {X : vt} : ∀ {m : Nat}, cp_r X (vt_c X + m) = cp_r X (vt_c X) + m := by
  intro m
  induction m with
  | zero => rfl
  | succ m ih =>
    show cp_r X (vt_c X + m) + (2 * vt_w (cp_c X (vt_c X + m)) - 1) = _
    have : vt_w (cp_c X (vt_c X + m)) = 1 := by unfold cp_c; rw [if_neg (by omega)]; rfl
    rw [ih, this]; omega
theorem cp_r_tot {X : vt} {n : Nat} (hv : vo (n + 1) X) : cp_r X (cp_t X) ≤ 2 * vt_w X - 2 := by
  unfold cp_t
  rw [cp_r_keys]
  have h1 := cp_r_items hv (Nat.le_refl (vt_c X))
  have h2 := (vo_o.mp hv).2.2.2.2.1
  rw [(vo_o.mp hv).2.2.2.2.2.2.2.2.2.1]
  split at h2 <;> omega
