/-! The model's values: what lies at an index. Regions: indices below 29, and from b0 to nv; the pool from pb to np. -/
def ma_v (b0 nv v : Nat) : Prop := (v < 29 ∨ (b0 ≤ v ∧ v < nv)) ∧ v < 760
abbrev mo_I : Type := Nat → Nat → Int32
abbrev mo_J : Type := Nat → Nat → Int64
def vt_ln (X : vt) : Nat := if vt_k X = 4 then (vt_l X).length else vt_c X
def mv_S (I : mo_I) (J : mo_J) (b0 nv v : Nat) (L : List Int32) : Prop := ma_v b0 nv v ∧ I 1 v = nI 4 ∧ J 2 v = 0 ∧ I 3 v = nI L.length ∧ ml_L J v L ∧ I 4 v = nI 1 ∧ I 5 v = nI 1
def mv (I : mo_I) (J : mo_J) (b0 nv pb np : Nat) : Nat → Nat → vt → Prop
  | 0, _, _ => False
  | n + 1, v, X => ma_v b0 nv v ∧ I 1 v = nI (vt_k X) ∧ J 2 v = vt_n X ∧ I 3 v = nI (vt_ln X) ∧ ml_L J v (vt_l X) ∧ I 4 v = nI (vt_w X) ∧ I 5 v = nI (vt_h X + 1) ∧ (5 ≤ vt_k X → ∃ (fv : Nat) (B K : Nat → Nat), I 9 v = nI fv ∧ (pb ≤ fv ∧ fv + vt_c X + (vt_q X).length ≤ np ∧ np ≤ 8800) ∧ (∀ j, j < vt_c X → I 10 (fv + j) = nI (B j) ∧ mv I J b0 nv pb np n (B j) (vt_s X j)) ∧ ∀ j, j < (vt_q X).length → I 10 (fv + vt_c X + j) = nI (K j) ∧ mv_S I J b0 nv (K j) ((vt_q X).getD j []))
theorem mv_o {I : mo_I} {J : mo_J} {b0 nv pb np n v : Nat} {X : vt} : mv I J b0 nv pb np (n + 1) v X ↔ ma_v b0 nv v ∧ I 1 v = nI (vt_k X) ∧ J 2 v = vt_n X ∧ I 3 v = nI (vt_ln X) ∧ ml_L J v (vt_l X) ∧ I 4 v = nI (vt_w X) ∧ I 5 v = nI (vt_h X + 1) ∧ (5 ≤ vt_k X → ∃ (fv : Nat) (B K : Nat → Nat), I 9 v = nI fv ∧ (pb ≤ fv ∧ fv + vt_c X + (vt_q X).length ≤ np ∧ np ≤ 8800) ∧ (∀ j, j < vt_c X → I 10 (fv + j) = nI (B j) ∧ mv I J b0 nv pb np n (B j) (vt_s X j)) ∧ ∀ j, j < (vt_q X).length → I 10 (fv + vt_c X + j) = nI (K j) ∧ mv_S I J b0 nv (K j) ((vt_q X).getD j [])) := Iff.rfl
/-- what was there has stayed -/
def ma (I : mo_I) (J : mo_J) (I1 : mo_I) (J1 : mo_J) (_b0 nv _pb np : Nat) : Prop := (∀ k v, (k = 1 ∨ k = 3 ∨ k = 4 ∨ k = 5 ∨ k = 9) → ma_v 0 nv v → I1 k v = I k v) ∧ (∀ k v, (k = 2 ∨ k = 6 ∨ k = 7 ∨ k = 8) → ma_v 0 nv v → J1 k v = J k v) ∧ ∀ p, 0 ≤ p → p < np → I1 10 p = I 10 p
theorem ma_v.z {b0 nv v : Nat} (h : ma_v b0 nv v) : ma_v 0 nv v := ⟨by rcases h.1 with h | h; exact Or.inl h; exact Or.inr ⟨Nat.zero_le _, h.2⟩, h.2⟩
theorem ma.rf {I : mo_I} {J : mo_J} {b0 nv pb np : Nat} : ma I J I J b0 nv pb np := ⟨fun _ _ _ _ => rfl, fun _ _ _ _ => rfl, fun _ _ _ => rfl⟩
theorem ma_v.le {b0 nv nv1 v : Nat} (h : ma_v b0 nv v) (hn : nv ≤ nv1) : ma_v b0 nv1 v := ⟨by rcases h.1 with h | h; exact Or.inl h; exact Or.inr ⟨h.1, by omega⟩, h.2⟩
theorem ma.tr {I I1 I2 : mo_I} {J J1 J2 : mo_J} {b0 nv pb np nv1 np1 : Nat} (h : ma I J I1 J1 b0 nv pb np) (h1 : ma I1 J1 I2 J2 b0 nv1 pb np1) (hn : nv ≤ nv1) (hp : np ≤ np1) : ma I J I2 J2 b0 nv pb np :=
  ⟨fun k v hk hv => (h1.1 k v hk (hv.le hn)).trans (h.1 k v hk hv), fun k v hk hv => (h1.2.1 k v hk (hv.le hn)).trans (h.2.1 k v hk hv), fun p h3 h4 => (h1.2.2 p h3 (by omega)).trans (h.2.2 p h3 h4)⟩
theorem ml_L.keep {I I1 : mo_I} {J J1 : mo_J} {b0 nv pb np v : Nat} {L : List Int32} (h : ml_L J v L) (hm : ma I J I1 J1 b0 nv pb np) (hv : ma_v b0 nv v) : ml_L J1 v L := by
  refine ⟨h.1, fun k hk => ?_⟩
  rw [hm.2.1 6 v (by omega) hv.z, hm.2.1 7 v (by omega) hv.z, hm.2.1 8 v (by omega) hv.z]
  exact h.2 k hk
theorem mv_S.keep {I I1 : mo_I} {J J1 : mo_J} {b0 nv nv1 pb np v : Nat} {L : List Int32} (h : mv_S I J b0 nv v L) (hm : ma I J I1 J1 b0 nv pb np) (hn : nv ≤ nv1) : mv_S I1 J1 b0 nv1 v L := by
  obtain ⟨h0, h1, h2, h3, h4, h5, h6⟩ := h
  exact ⟨h0.le hn, (hm.1 1 v (by omega) h0.z).trans h1, (hm.2.1 2 v (by omega) h0.z).trans h2, (hm.1 3 v (by omega) h0.z).trans h3, h4.keep hm h0, (hm.1 4 v (by omega) h0.z).trans h5, (hm.1 5 v (by omega) h0.z).trans h6⟩
theorem mv.keep {I I1 : mo_I} {J J1 : mo_J} {b0 nv nv1 pb np np1 : Nat} (hm : ma I J I1 J1 b0 nv pb np) (hn : nv ≤ nv1) (hp : np ≤ np1) (hp8 : np1 ≤ 8800) : ∀ {n v : Nat} {X : vt}, mv I J b0 nv pb np n v X → mv I1 J1 b0 nv1 pb np1 n v X := by
  intro n
  induction n with
  | zero => intro v X h; exact h
  | succ n ih =>
    intro v X h
    obtain ⟨h0, h1, h2, h3, h4, h5, h6, h7⟩ := h
    refine ⟨h0.le hn, (hm.1 1 v (by omega) h0.z).trans h1, (hm.2.1 2 v (by omega) h0.z).trans h2, (hm.1 3 v (by omega) h0.z).trans h3, h4.keep hm h0, (hm.1 4 v (by omega) h0.z).trans h5, (hm.1 5 v (by omega) h0.z).trans h6, fun hk => ?_⟩
    obtain ⟨fv, B, K, g1, g2, g3, g4⟩ := h7 hk
    exact ⟨fv, B, K, (hm.1 9 v (by omega) h0.z).trans g1, ⟨g2.1, by omega, hp8⟩, fun j hj => ⟨(hm.2.2 _ (by omega) (by omega)).trans (g3 j hj).1, ih (g3 j hj).2⟩, fun j hj => ⟨(hm.2.2 _ (by omega) (by omega)).trans (g4 j hj).1, (g4 j hj).2.keep hm hn⟩⟩
theorem mv.up {I : mo_I} {J : mo_J} {b0 nv pb np : Nat} : ∀ {n v : Nat} {X : vt}, mv I J b0 nv pb np n v X → mv I J b0 nv pb np (n + 1) v X := by
  intro n
  induction n with
  | zero => intro v X h; exact h.elim
  | succ n ih =>
    intro v X h
    obtain ⟨h0, h1, h2, h3, h4, h5, h6, h7⟩ := h
    refine ⟨h0, h1, h2, h3, h4, h5, h6, fun hk => ?_⟩
    obtain ⟨fv, B, K, g1, g2, g3, g4⟩ := h7 hk
    exact ⟨fv, B, K, g1, g2, fun j hj => ⟨(g3 j hj).1, ih (g3 j hj).2⟩, g4⟩
theorem mv.down {I : mo_I} {J : mo_J} {b0 nv pb np : Nat} : ∀ {n k m v : Nat} {X : vt}, mv I J b0 nv pb np n v X → vo k X → vt_h X < m → mv I J b0 nv pb np m v X := by
  intro n
  induction n with
  | zero => intro k m v X h; exact h.elim
  | succ n ih =>
    intro k m v X h hv hm
    cases m with
    | zero => omega
    | succ m =>
      cases k with
      | zero => exact hv.elim
      | succ k =>
        obtain ⟨h0, h1, h2, h3, h4, h5, h6, h7⟩ := h
        have hs := (vo_o.mp hv).2.2.2.2.2.2.2.2.2.2.2
        refine ⟨h0, h1, h2, h3, h4, h5, h6, fun hk => ?_⟩
        obtain ⟨fv, B, K, g1, g2, g3, g4⟩ := h7 hk
        exact ⟨fv, B, K, g1, g2, fun j hj => ⟨(g3 j hj).1, ih (g3 j hj).2 (hs j hj).2 (by have := (hs j hj).1; omega)⟩, g4⟩
/-- the value at v shows X, and X is within the limits -/
def mw (I : mo_I) (J : mo_J) (b0 nv pb np v : Nat) (X : vt) : Prop := mv I J b0 nv pb np 8 v X ∧ vo 8 X
theorem mw.keep {I I1 : mo_I} {J J1 : mo_J} {b0 nv nv1 pb np np1 v : Nat} {X : vt} (h : mw I J b0 nv pb np v X) (hm : ma I J I1 J1 b0 nv pb np) (hn : nv ≤ nv1) (hp : np ≤ np1) (hp8 : np1 ≤ 8800) : mw I1 J1 b0 nv1 pb np1 v X := ⟨mv.keep hm hn hp hp8 h.1, h.2⟩
theorem mw.lt {I : mo_I} {J : mo_J} {b0 nv pb np v : Nat} {X : vt} (h : mw I J b0 nv pb np v X) : v < 760 := (mv_o.mp h.1).1.2
theorem mv_S.str {I : mo_I} {J : mo_J} {b0 nv pb np v : Nat} {L : List Int32} (h : mv_S I J b0 nv v L) (hL : lt_ok L) : mw I J b0 nv pb np v (vt_t L) := by
  obtain ⟨h0, h1, h2, h3, h4, h5, h6⟩ := h
  exact ⟨mv_o.mpr ⟨h0, h1, h2, h3, h4, h5, h6, fun z => absurd z (by show ¬ 5 ≤ 4; omega)⟩, vo_o.mpr ⟨by show 4 ≤ 6; omega, fun _ => rfl, fun h => absurd rfl h, hL, rfl, fun _ => rfl, Nat.zero_le _, by show 1 ≤ 100; omega, ⟨Nat.zero_le _, fun _ => rfl⟩, rfl, fun j hj => absurd hj (Nat.not_lt_zero j), fun j hj => absurd hj (Nat.not_lt_zero j)⟩⟩
theorem mw.key {I : mo_I} {J : mo_J} {b0 nv pb np v : Nat} {X : vt} (h : mw I J b0 nv pb np v X) (hk : vt_k X = 4) : mv_S I J b0 nv v (vt_l X) := by
  obtain ⟨h0, h1, h2, h3, h4, h5, h6, -⟩ := mv_o.mp h.1
  have ho := vo_o.mp h.2
  have hc : vt_c X = 0 := ho.2.2.2.2.2.1 (by omega)
  have hw : vt_w X = 1 := by rw [ho.2.2.2.2.2.2.2.2.2.1, hc]; rfl
  have hh : vt_h X = 0 := ho.2.2.2.2.2.2.2.2.1.2 hc
  rw [hk] at h1
  rw [ho.2.1 (by omega)] at h2
  rw [show vt_ln X = (vt_l X).length by unfold vt_ln; rw [if_pos hk]] at h3
  rw [hw] at h5
  rw [hh] at h6
  exact ⟨h0, h1, h2, h3, h4, h5, h6⟩
