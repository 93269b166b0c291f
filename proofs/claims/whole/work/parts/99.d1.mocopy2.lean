/-! The steps of copying. -/
/-- what lies in a list or an object -/
theorem cp_src {I : mo_I} {J : mo_J} {b0 nv pb np o : Nat} {X : vt} (h : mw I J b0 nv pb np o X) (h5 : 5 ≤ vt_k X) : ∃ (fv : Nat) (sj : Nat → Nat), I 9 o = nI fv ∧ (pb ≤ fv ∧ fv + cp_t X ≤ np ∧ np ≤ 8800) ∧ ∀ j, j < cp_t X → I 10 (fv + j) = nI (sj j) ∧ mw I J b0 nv pb np (sj j) (cp_c X j) := by
  have hvo := vo_o.mp h.2
  obtain ⟨-, -, -, -, -, -, -, a8⟩ := mv_o.mp h.1
  obtain ⟨fv, B, K, g1, ⟨g2, g3, g4⟩, g5, g6⟩ := a8 h5
  refine ⟨fv, fun j => if j < vt_c X then B j else K (j - vt_c X), g1, ⟨g2, by unfold cp_t; omega, g4⟩, fun j hj => ?_⟩
  unfold cp_t at hj
  unfold cp_c
  by_cases hc : j < vt_c X
  · rw [if_pos hc]
    show _ = nI (if j < vt_c X then B j else K (j - vt_c X)) ∧ mw I J b0 nv pb np (if j < vt_c X then B j else K (j - vt_c X)) _
    rw [if_pos hc]
    have hs := hvo.2.2.2.2.2.2.2.2.2.2.2 j hc
    exact ⟨(g5 j hc).1, mv.up (g5 j hc).2, hs.2.down (by have := hvo.2.2.2.2.2.2.2.2.1.1; omega)⟩
  · rw [if_neg hc]
    show _ = nI (if j < vt_c X then B j else K (j - vt_c X)) ∧ mw I J b0 nv pb np (if j < vt_c X then B j else K (j - vt_c X)) _
    rw [if_neg hc]
    have hk := g6 (j - vt_c X) (by omega)
    rw [show fv + vt_c X + (j - vt_c X) = fv + j by omega] at hk
    exact ⟨hk.1, hk.2.str (hvo.2.2.2.2.2.2.2.2.2.2.1 _ (by omega))⟩
theorem vt_w_pos {I : mo_I} {J : mo_J} {b0 nv pb np o : Nat} {X : vt} (h : mw I J b0 nv pb np o X) : 1 ≤ vt_w X ∧ vt_w X ≤ 100 := by
  have hvo := vo_o.mp h.2
  exact ⟨by rw [hvo.2.2.2.2.2.2.2.2.2.1]; exact vt_ws_pos, hvo.2.2.2.2.2.2.2.1⟩
/-- between two values: all before c are done -/
def cp_O (I0 : mo_I) (J0 : mo_J) (b1 nv1 pb1 np1 b pb M c nv np : Nat) (I : mo_I) (J : mo_J) (og : Nat → Nat) (DX : Nat → vt) (F : Nat → Nat) (G : Nat → Nat → Nat) : Prop := (b ≤ c ∧ c ≤ nv ∧ pb ≤ np) ∧ cp_B I0 J0 b1 nv1 pb1 np1 b nv I J og DX ∧ (∀ i, b ≤ i → i < c → 5 ≤ vt_k (DX i) → cp_C I0 J0 b1 nv1 pb1 np1 b nv pb I DX F G i (cp_t (DX i)) np) ∧ cp_F I0 J0 I J b nv pb np ∧ nv + cp_s DX c (nv - c) ≤ b + M ∧ np + cp_s DX c (nv - c) + 1 ≤ pb + M
/-- in the midst of c: its first k are done -/
def cp_N (I0 : mo_I) (J0 : mo_J) (b1 nv1 pb1 np1 b pb M c k nv np : Nat) (I : mo_I) (J : mo_J) (og : Nat → Nat) (DX : Nat → vt) (F : Nat → Nat) (G : Nat → Nat → Nat) : Prop := (b ≤ c ∧ c < nv ∧ F c + cp_t (DX c) = np ∧ k ≤ cp_t (DX c) ∧ 5 ≤ vt_k (DX c)) ∧ cp_B I0 J0 b1 nv1 pb1 np1 b nv I J og DX ∧ (∀ i, b ≤ i → i < c → 5 ≤ vt_k (DX i) → cp_C I0 J0 b1 nv1 pb1 np1 b nv pb I DX F G i (cp_t (DX i)) (F c)) ∧ cp_C I0 J0 b1 nv1 pb1 np1 b nv pb I DX F G c k np ∧ cp_F I0 J0 I J b nv pb np ∧ nv + cp_s DX (c + 1) (nv - (c + 1)) + cp_r (DX c) (cp_t (DX c)) ≤ b + M + cp_r (DX c) k ∧ np + cp_s DX (c + 1) (nv - (c + 1)) + cp_r (DX c) (cp_t (DX c)) + k + 1 ≤ pb + M + cp_r (DX c) k + cp_t (DX c)
section
variable {I0 : mo_I} {J0 : mo_J} {b1 nv1 pb1 np1 b nv pb np M c k : Nat} {I : mo_I} {J : mo_J} {og : Nat → Nat} {DX : Nat → vt} {F : Nat → Nat} {G : Nat → Nat → Nat}
theorem cp_O.skip (h : cp_O I0 J0 b1 nv1 pb1 np1 b pb M c nv np I J og DX F G) (hc : c < nv) (h5 : ¬ 5 ≤ vt_k (DX c)) : cp_O I0 J0 b1 nv1 pb1 np1 b pb M (c + 1) nv np I J og DX F G := by
  obtain ⟨⟨a1, a2, a3⟩, hB, hC, hF, h1, h2⟩ := h
  have e : cp_s DX c (nv - c) = (2 * vt_w (DX c) - 2) + cp_s DX (c + 1) (nv - (c + 1)) := by
    rw [show nv - c = (nv - (c + 1)) + 1 by omega]; exact cp_s_first
  refine ⟨⟨by omega, by omega, a3⟩, hB, fun i i1 i2 i3 => ?_, hF, by omega, by omega⟩
  by_cases ei : i = c
  · subst ei; exact absurd i3 h5
  · exact hC i i1 (by omega) i3
theorem cp_l.up {nv2 : Nat} {DY : Nat → vt} {g : Nat} {Z : vt} (h : cp_l I0 J0 b1 nv1 pb1 np1 b nv DX g Z) (hn : nv ≤ nv2) (hD : ∀ i, i < nv → DY i = DX i) : cp_l I0 J0 b1 nv1 pb1 np1 b nv2 DY g Z := by
  rcases h with h | ⟨h1, h2, h3⟩
  · exact Or.inl h
  · exact Or.inr ⟨h1, by omega, (hD g h2).trans h3⟩
theorem cp_r_ge {X : vt} {n : Nat} (hv : vo (n + 1) X) : ∀ {m : Nat}, m ≤ cp_t X → m ≤ cp_r X m := by
  intro m
  induction m with
  | zero => intro _; exact Nat.zero_le _
  | succ m ih =>
    intro hm
    have h1 := ih (by omega)
    have hw : 1 ≤ vt_w (cp_c X m) := by
      unfold cp_c
      by_cases hc : m < vt_c X
      · rw [if_pos hc]
        have hs := (vo_o.mp hv).2.2.2.2.2.2.2.2.2.2.2 m hc
        cases n with
        | zero => exact hs.2.elim
        | succ n => rw [(vo_o.mp hs.2).2.2.2.2.2.2.2.2.2.1]; exact vt_ws_pos
      · rw [if_neg hc]; exact Nat.le_refl _
    show m + 1 ≤ cp_r X m + (2 * vt_w (cp_c X m) - 1)
    omega
theorem cp_O.room (h : cp_O I0 J0 b1 nv1 pb1 np1 b pb M c nv np I J og DX F G) (hc : c < nv) : np + cp_t (DX c) + 1 ≤ pb + M := by
  obtain ⟨⟨a1, a2, a3⟩, hB, hC, hF, h1, h2⟩ := h
  have hvo := (hB c a1 hc).1.2
  have ht := cp_r_tot hvo
  have hg := cp_r_ge hvo (Nat.le_refl (cp_t (DX c)))
  have e : cp_s DX c (nv - c) = (2 * vt_w (DX c) - 2) + cp_s DX (c + 1) (nv - (c + 1)) := by
    rw [show nv - c = (nv - (c + 1)) + 1 by omega]; exact cp_s_first
  omega
/-- c is opened: its first is np -/
theorem cp_O.opn (h : cp_O I0 J0 b1 nv1 pb1 np1 b pb M c nv np I J og DX F G) (hc : c < nv) (h5 : 5 ≤ vt_k (DX c)) {I2 : mo_I} (h9 : I2 9 = upd (I 9) c (nI np)) (hI : ∀ j, j ≠ 9 → I2 j = I j) : cp_N I0 J0 b1 nv1 pb1 np1 b pb M c 0 nv (np + cp_t (DX c)) I2 J og DX (va_up F c np) G := by
  obtain ⟨⟨a1, a2, a3⟩, hB, hC, hF, h1, h2⟩ := h
  have hvo := (hB c a1 hc).1.2
  have ht := cp_r_tot hvo
  have e : cp_s DX c (nv - c) = (2 * vt_w (DX c) - 2) + cp_s DX (c + 1) (nv - (c + 1)) := by
    rw [show nv - c = (nv - (c + 1)) + 1 by omega]; exact cp_s_first
  have r0 : cp_r (DX c) 0 = 0 := rfl
  refine ⟨⟨a1, hc, by rw [va_up_s], Nat.zero_le _, h5⟩, fun i i1 i2 => ?_, fun i i1 i2 i3 => ?_, ⟨by rw [h9, va_up_s]; simp [upd], by rw [va_up_s]; omega, fun j hj => absurd hj (Nat.not_lt_zero j)⟩, ⟨fun q v hq hv => ?_, hF.2.1, fun p hp => ?_, fun q q1 q3 q4 q5 q9 q10 q13 => ?_⟩, by omega, by omega⟩
  · obtain ⟨x1, x2, x3, x4⟩ := hB i i1 i2
    refine ⟨x1, by rw [hI 13 (by decide)]; exact x2, ?_, x4⟩
    rw [hI 1 (by decide), hI 3 (by decide), hI 4 (by decide), hI 5 (by decide)]; exact x3
  · obtain ⟨x1, ⟨x2, x3⟩, x4⟩ := hC i i1 i2 i3
    unfold cp_C
    rw [va_up_n (by omega), va_up_s]
    refine ⟨by rw [h9]; simp only [upd]; rw [if_neg (by omega)]; exact x1, ⟨x2, x3⟩, fun j hj => ?_⟩
    rw [hI 10 (by decide)]; exact x4 j hj
  · by_cases e9 : q = 9
    · subst e9
      rw [h9]; simp only [upd]; rw [if_neg (by omega)]; exact hF.1 9 v hq hv
    · rw [hI q e9]; exact hF.1 q v hq hv
  · rw [hI 10 (by decide)]; exact hF.2.2.1 p (by omega)
  · rw [hI q q9]; exact hF.2.2.2 q q1 q3 q4 q5 q9 q10 q13
/-- c is done -/
theorem cp_N.close (h : cp_N I0 J0 b1 nv1 pb1 np1 b pb M c (cp_t (DX c)) nv np I J og DX F G) : cp_O I0 J0 b1 nv1 pb1 np1 b pb M (c + 1) nv np I J og DX F G := by
  obtain ⟨⟨a1, a2, a3, a4, a5⟩, hB, hC, hCc, hF, h1, h2⟩ := h
  refine ⟨⟨by omega, by omega, by have := hCc.2.1; omega⟩, hB, fun i i1 i2 i3 => ?_, hF, by omega, by omega⟩
  by_cases ei : i = c
  · subst ei; exact hCc
  · obtain ⟨x1, ⟨x2, x3⟩, x4⟩ := hC i i1 (by omega) i3
    exact ⟨x1, ⟨x2, by omega⟩, x4⟩
/-- one more of c: the pool's cell is written, and g shows it -/
theorem cp_N.put {nv2 : Nat} {DY : Nat → vt} {og2 : Nat → Nat} {J2 : mo_J} {I1 I2 : mo_I} {g : Nat} (h : cp_N I0 J0 b1 nv1 pb1 np1 b pb M c k nv np I J og DX F G) (hk : k < cp_t (DX c)) (hn : nv ≤ nv2) (hD : ∀ i, i < nv → DY i = DX i) (hB2 : cp_B I0 J0 b1 nv1 pb1 np1 b nv2 I1 J2 og2 DY) (h910 : I1 9 = I 9 ∧ I1 10 = I 10) (hF2 : (∀ q v, (q = 1 ∨ q = 3 ∨ q = 4 ∨ q = 5 ∨ q = 9) → v < b ∨ nv2 ≤ v → I1 q v = I0 q v) ∧ (∀ q v, (q = 2 ∨ q = 6 ∨ q = 7 ∨ q = 8) → v < b ∨ nv2 ≤ v → J2 q v = J0 q v) ∧ ∀ q, q ≠ 1 → q ≠ 3 → q ≠ 4 → q ≠ 5 → q ≠ 9 → q ≠ 10 → q ≠ 13 → I1 q = I0 q) (hI2 : I2 10 = upd (I1 10) (F c + k) (nI g) ∧ ∀ j, j ≠ 10 → I2 j = I1 j) (hg : cp_l I0 J0 b1 nv1 pb1 np1 b nv2 DY g (cp_c (DX c) k)) (hw : 1 ≤ vt_w (cp_c (DX c) k)) (hs : nv2 + cp_s DY (c + 1) (nv2 - (c + 1)) ≤ nv + cp_s DX (c + 1) (nv - (c + 1)) + (2 * vt_w (cp_c (DX c) k) - 1) ∧ cp_s DY (c + 1) (nv2 - (c + 1)) ≤ cp_s DX (c + 1) (nv - (c + 1)) + (2 * vt_w (cp_c (DX c) k) - 2)) : cp_N I0 J0 b1 nv1 pb1 np1 b pb M c (k + 1) nv2 np I2 J2 og2 DY F (fun i j => if i = c ∧ j = k then g else G i j) := by
  obtain ⟨⟨a1, a2, a3, a4, a5⟩, hB, hC, hCc, hF, h1, h2⟩ := h
  have eDc : DY c = DX c := hD c a2
  have er : cp_r (DX c) (k + 1) = cp_r (DX c) k + (2 * vt_w (cp_c (DX c) k) - 1) := rfl
  refine ⟨⟨a1, by omega, by rw [eDc]; exact a3, by rw [eDc]; omega, by rw [eDc]; exact a5⟩, fun i i1 i2 => ?_, fun i i1 i2 i3 => ?_, ?_, ⟨fun q v hq hv => ?_, hF2.2.1, fun p hp => ?_, fun q q1 q3 q4 q5 q9 q10 q13 => ?_⟩, by rw [eDc]; omega, by rw [eDc]; omega⟩
  · obtain ⟨x1, x2, x3, x4⟩ := hB2 i i1 i2
    refine ⟨x1, by rw [hI2.2 13 (by decide)]; exact x2, ?_, x4⟩
    rw [hI2.2 1 (by decide), hI2.2 3 (by decide), hI2.2 4 (by decide), hI2.2 5 (by decide)]; exact x3
  · rw [hD i (by omega)] at i3
    obtain ⟨x1, ⟨x2, x3⟩, x4⟩ := hC i i1 i2 i3
    unfold cp_C
    rw [hD i (by omega)]
    refine ⟨by rw [hI2.2 9 (by decide), h910.1]; exact x1, ⟨x2, x3⟩, fun j hj => ?_⟩
    show I2 10 (F i + j) = nI (if i = c ∧ j = k then g else G i j) ∧ _
    rw [if_neg (by omega)]
    refine ⟨?_, ?_⟩
    · rw [hI2.1, h910.2]; simp only [upd]; rw [if_neg (by omega)]; exact (x4 j hj).1
    · show cp_l _ _ _ _ _ _ _ _ _ (if i = c ∧ j = k then g else G i j) _
      rw [if_neg (by omega)]; exact (x4 j hj).2.up hn hD
  · obtain ⟨x1, ⟨x2, x3⟩, x4⟩ := hCc
    unfold cp_C
    rw [eDc]
    refine ⟨by rw [hI2.2 9 (by decide), h910.1]; exact x1, ⟨x2, x3⟩, fun j hj => ?_⟩
    by_cases ej : j = k
    · subst ej
      show I2 10 (F c + j) = nI (if c = c ∧ j = j then g else G c j) ∧ cp_l _ _ _ _ _ _ _ _ _ (if c = c ∧ j = j then g else G c j) _
      rw [if_pos ⟨rfl, rfl⟩, hI2.1]
      exact ⟨by simp [upd], hg⟩
    · show I2 10 (F c + j) = nI (if c = c ∧ j = k then g else G c j) ∧ cp_l _ _ _ _ _ _ _ _ _ (if c = c ∧ j = k then g else G c j) _
      rw [if_neg (fun z => ej z.2), hI2.1, h910.2]
      refine ⟨?_, (x4 j (by omega)).2.up hn hD⟩
      simp only [upd]; rw [if_neg (by omega)]; exact (x4 j (by omega)).1
  · rw [hI2.2 q (by omega)]; exact hF2.1 q v hq hv
  · rw [hI2.1, h910.2]
    simp only [upd]
    have := hCc.2.1
    rw [if_neg (by omega)]
    exact hF.2.2.1 p hp
  · rw [hI2.2 q q10]; exact hF2.2.2 q q1 q3 q4 q5 q9 q10 q13
/-- what copyOne makes of v -/
def co_n (b nv v : Nat) (S : Nat → Int32) (I : mo_I) (J : mo_J) (S2 : Nat → Int32) (I2 : mo_I) (J2 : mo_J) : Prop := S2 = va_up S 11 (nI (nv + 1)) ∧ (∀ k j, ((k ≠ 1 ∧ k ≠ 3 ∧ k ≠ 4 ∧ k ≠ 5) ∨ j ≠ nv) → (k ≠ 13 ∨ j ≠ nv - b) → I2 k j = I k j) ∧ (I2 1 nv = I 1 v ∧ I2 3 nv = I 3 v ∧ I2 4 nv = I 4 v ∧ I2 5 nv = I 5 v) ∧ I2 13 (nv - b) = nI v ∧ (∀ k j, (k ≠ 2 ∧ k ≠ 6 ∧ k ≠ 7 ∧ k ≠ 8) ∨ j ≠ nv → J2 k j = J k j) ∧ (J2 2 nv = J 2 v ∧ J2 6 nv = J 6 v ∧ J2 7 nv = J 7 v ∧ J2 8 nv = J 8 v)
/-- the cells of one more copy -/
theorem co_n.B {v : Nat} {Z : vt} {S S2 : Nat → Int32} {I2 : mo_I} {J2 : mo_J} (h : co_n b nv v S I J S2 I2 J2) (hB : cp_B I0 J0 b1 nv1 pb1 np1 b nv I J og DX) (hF : (∀ q v, (q = 1 ∨ q = 3 ∨ q = 4 ∨ q = 5 ∨ q = 9) → v < b ∨ nv ≤ v → I q v = I0 q v) ∧ (∀ q v, (q = 2 ∨ q = 6 ∨ q = 7 ∨ q = 8) → v < b ∨ nv ≤ v → J q v = J0 q v)) (hv : mw I0 J0 b1 nv1 pb1 np1 v Z) (hvd : v < b ∨ nv ≤ v) (hb : b ≤ nv) : cp_B I0 J0 b1 nv1 pb1 np1 b (nv + 1) I2 J2 (va_up og nv v) (va_up DX nv Z) := by
  obtain ⟨-, h1, ⟨h2, h3, h4, h5⟩, h13, h6, h7, h8, h9, h10⟩ := h
  intro i i1 i2
  by_cases ei : i = nv
  · subst ei
    rw [va_up_s, va_up_s]
    exact ⟨hv, h13, ⟨h2.trans (hF.1 1 v (by omega) hvd), h3.trans (hF.1 3 v (by omega) hvd), h4.trans (hF.1 4 v (by omega) hvd), h5.trans (hF.1 5 v (by omega) hvd)⟩, h7.trans (hF.2 2 v (by omega) hvd), h8.trans (hF.2 6 v (by omega) hvd), h9.trans (hF.2 7 v (by omega) hvd), h10.trans (hF.2 8 v (by omega) hvd)⟩
  · obtain ⟨x1, x2, x3, x4⟩ := hB i i1 (by omega)
    rw [va_up_n ei, va_up_n ei]
    refine ⟨x1, (h1 13 (i - b) (by omega) (by omega)).trans x2, ?_, ?_⟩
    · rw [h1 1 i (by omega) (by omega), h1 3 i (by omega) (by omega), h1 4 i (by omega) (by omega), h1 5 i (by omega) (by omega)]; exact x3
    · rw [h6 2 i (by omega), h6 6 i (by omega), h6 7 i (by omega), h6 8 i (by omega)]; exact x4
/-- the first copy -/
theorem cp_start {v : Nat} {X : vt} {S S2 : Nat → Int32} {I2 : mo_I} {J2 : mo_J} (h : co_n b b v S I0 J0 S2 I2 J2) (hv : mw I0 J0 b1 nv1 pb1 np1 v X) (hvd : v < b ∨ b + 1 ≤ v) : cp_O I0 J0 b1 nv1 pb1 np1 b pb (2 * vt_w X - 1) b (b + 1) pb I2 J2 (va_up (fun _ => 0) b v) (va_up (fun _ => vt_0 0) b X) (fun _ => 0) (fun _ _ => 0) := by
  have hw := (vt_w_pos hv).1
  have hB := h.B (og := fun _ => 0) (DX := fun _ => vt_0 0) (I0 := I0) (J0 := J0) (b1 := b1) (nv1 := nv1) (pb1 := pb1) (np1 := np1) (fun i i1 i2 => absurd i2 (by omega)) ⟨fun _ _ _ _ => rfl, fun _ _ _ _ => rfl⟩ hv (by omega) (Nat.le_refl _)
  have es : cp_s (va_up (fun _ => vt_0 0) b X) b (b + 1 - b) = 2 * vt_w X - 2 := by
    rw [show b + 1 - b = 0 + 1 by omega]
    show 0 + (2 * vt_w (va_up (fun _ => vt_0 0) b X (b + 0)) - 2) = _
    rw [Nat.add_zero, va_up_s]; omega
  obtain ⟨-, h1, -, -, h6, -⟩ := h
  refine ⟨⟨Nat.le_refl _, Nat.le_succ _, Nat.le_refl _⟩, hB, fun i i1 i2 => absurd i2 (by omega), ⟨fun q w hq hw => h1 q w (by omega) (by omega), fun q w hq hw => h6 q w (by omega), fun p hp => h1 10 p (by omega) (by omega), fun q q1 q3 q4 q5 q9 q10 q13 => funext (fun j => h1 q j (by omega) (by omega))⟩, by rw [es]; omega, by rw [es]; omega⟩
/-- a constant is no copy -/
theorem cp_N.const {I2 : mo_I} {g : Nat} (h : cp_N I0 J0 b1 nv1 pb1 np1 b pb M c k nv np I J og DX F G) (hk : k < cp_t (DX c)) (hg : g < 29) (hv : mw I0 J0 b1 nv1 pb1 np1 g (cp_c (DX c) k)) (hI2 : I2 10 = upd (I 10) (F c + k) (nI g) ∧ ∀ j, j ≠ 10 → I2 j = I j) : cp_N I0 J0 b1 nv1 pb1 np1 b pb M c (k + 1) nv np I2 J og DX F (fun i j => if i = c ∧ j = k then g else G i j) := by
  have hw := (vt_w_pos hv).1
  exact h.put hk (Nat.le_refl _) (fun _ _ => rfl) h.2.1 ⟨rfl, rfl⟩ ⟨h.2.2.2.2.1.1, h.2.2.2.2.1.2.1, h.2.2.2.2.1.2.2.2⟩ hI2 (Or.inl ⟨hg, hv⟩) hw ⟨by omega, by omega⟩
theorem cp_N.new {S S2 : Nat → Int32} {I1 I2 : mo_I} {J2 : mo_J} {v : Nat} (h : cp_N I0 J0 b1 nv1 pb1 np1 b pb M c k nv np I J og DX F G) (hk : k < cp_t (DX c)) (hv : mw I0 J0 b1 nv1 pb1 np1 v (cp_c (DX c) k)) (hvd : v < b ∨ nv ≤ v) (hc : co_n b nv v S I J S2 I1 J2) (hI2 : I2 10 = upd (I1 10) (F c + k) (nI nv) ∧ ∀ j, j ≠ 10 → I2 j = I1 j) : cp_N I0 J0 b1 nv1 pb1 np1 b pb M c (k + 1) (nv + 1) np I2 J2 (va_up og nv v) (va_up DX nv (cp_c (DX c) k)) F (fun i j => if i = c ∧ j = k then nv else G i j) := by
  have hw := (vt_w_pos hv).1
  have ha := h.1
  have hF := h.2.2.2.2.1
  have hc2 := hc
  obtain ⟨-, h1, -, -, h6, -⟩ := hc2
  have es : cp_s (va_up DX nv (cp_c (DX c) k)) (c + 1) (nv + 1 - (c + 1)) = cp_s DX (c + 1) (nv - (c + 1)) + (2 * vt_w (cp_c (DX c) k) - 2) := by
    rw [show nv + 1 - (c + 1) = (nv - (c + 1)) + 1 by omega]
    show cp_s (va_up DX nv (cp_c (DX c) k)) (c + 1) (nv - (c + 1)) + (2 * vt_w (va_up DX nv (cp_c (DX c) k) (c + 1 + (nv - (c + 1)))) - 2) = _
    rw [show c + 1 + (nv - (c + 1)) = nv by omega, va_up_s, cp_s_congr (fun i i1 i2 => va_up_n (by omega))]
  exact h.put hk (Nat.le_succ _) (fun i hi => va_up_n (by omega)) (hc.B h.2.1 ⟨hF.1, hF.2.1⟩ hv hvd (by omega)) ⟨funext (fun j => h1 9 j (by omega) (by omega)), funext (fun j => h1 10 j (by omega) (by omega))⟩ ⟨fun q w hq hw => (h1 q w (by omega) (by omega)).trans (hF.1 q w hq (by omega)), fun q w hq hw => (h6 q w (by omega)).trans (hF.2.1 q w hq (by omega)), fun q q1 q3 q4 q5 q9 q10 q13 => (funext (fun j => h1 q j (by omega) (by omega))).trans (hF.2.2.2 q q1 q3 q4 q5 q9 q10 q13)⟩ hI2 (Or.inr ⟨by omega, by omega, va_up_s⟩) hw ⟨by omega, by omega⟩
end
