/-! What a part of the model shows. -/
def mx (I : mo_I) (J : mo_J) (b0 nv pb np : Nat) (k j : Nat) (X : vt) : Prop := ∃ v, I k j = nI v ∧ mw I J b0 nv pb np v X
theorem mx.keep {I I2 : mo_I} {J J2 : mo_J} {b0 nv pb np nv2 np2 k j : Nat} {X : vt} (h : mx I J b0 nv pb np k j X) (hk : I2 k j = I k j) (hm : ma I J I2 J2 b0 nv pb np) (hn : nv ≤ nv2) (hp : np ≤ np2) (hp8 : np2 ≤ 8800) : mx I2 J2 b0 nv2 pb np2 k j X := by
  obtain ⟨v, h1, h2⟩ := h
  exact ⟨v, hk.trans h1, h2.keep hm hn hp hp8⟩
/-- the stack of deep -/
def ds (cb bg : Nat → Nat) (c : Nat) (Y : vt) (A : Nat → Nat) (DV : Nat → vt) (n : Nat) : Nat → sr
  | 0 => sr_end 0
  | m + 1 => sr_seq (sr_its (fun Z => sr_D cb bg (n - m) c Z Y) (DV m) (vt_c (DV m) - A m) (A m)) (ds cb bg c Y A DV n m)
def sr_GG (cb : Nat → Nat) (c : Nat) (D : Nat → vt → vt → sr) (X Y x : vt) : sr := sr_op (sr_e (cb c)) (sr_h (cb c) x) (sr_G (cb c) D X Y x)
/-- a part that has begun shows T; K: what its parts show -/
def mb (cb bg : Nat → Nat) (K : Nat → sr → Prop) (I : mo_I) (J : mo_J) (b0 nv pb np n c : Nat) (T : sr) (X Y : vt) : Prop :=
  if cb c = 3 then I 35 c = 1 ∧ vt_hi X = true ∧ ∃ i, I 40 c = nI i ∧ i ≤ vt_c X ∧ T = sr_eac X (vt_c X - i) i
  else if cb c = 4 then I 35 c = 1 ∧ ∃ (m : Nat) (Vx Ax : Nat → Nat) (DV : Nat → vt), I 40 c = nI m ∧ m ≤ 8 ∧ (∀ j, j < m → I 42 (9 * c + j) = nI (Vx j) ∧ mw I J b0 nv pb np (Vx j) (DV j) ∧ 5 ≤ vt_k (DV j) ∧ I 43 (9 * c + j) = nI (Ax j) ∧ Ax j ≤ vt_c (DV j) ∧ vt_h (DV j) + j ≤ 7) ∧ T = ds cb bg c Y Ax DV n m
  else if cb c = 8 ∨ cb c = 11 ∨ 22 ≤ cb c then ∃ (ph : Nat) (P R : sr) (x : vt), (ph = 1 ∨ (ph = 2 ∧ cb c = 11)) ∧ I 35 c = nI (ph + 1) ∧ mx I J b0 nv pb np 38 c x ∧ K (bg (c * 3 + 0)) P ∧ K (bg (c * 3 + ph)) R ∧ T = sr_seq (sr_op (sr_e (cb c)) (sr_h (cb c) x) R) (sr_bind (sr_GG cb c (fun i Z W => sr_D cb bg n (bg (c * 3 + i)) Z W) X Y) P)
  else if cb c = 9 then (I 35 c = 1 ∧ ∃ P, K (bg (c * 3 + 0)) P ∧ T = sr_seq P (sr_D cb bg n (bg (c * 3 + 1)) X Y)) ∨ (I 35 c = 2 ∧ K (bg (c * 3 + 1)) T)
  else if cb c = 10 then (I 35 c = 1 ∧ ∃ (g : Bool) (P : sr), I 38 c = (if g = true then 1 else 0) ∧ K (bg (c * 3 + 0)) P ∧ T = sr_els (sr_D cb bg n (bg (c * 3 + 1)) X Y) g P) ∨ (I 35 c = 2 ∧ K (bg (c * 3 + 1)) T)
  else if cb c = 13 then I 35 c = 1 ∧ ∃ P, K (bg (c * 3 + 0)) P ∧ T = sr_try P
  else if cb c = 14 then I 35 c = 4 ∧ ∃ P, K (bg (c * 3 + 1)) P ∧ T = sr_fol (sr_D cb bg n (bg (c * 3 + 0)) X Y) (fun v x => sr_D cb bg n (bg (c * 3 + 2)) v x) P
  else if cb c = 16 then I 35 c = 1 ∧ (vt_k X = 0 ∨ vt_k X = 6) ∧ ∃ P, K (bg (c * 3 + 0)) P ∧ T = sr_op 1 (vt_wm X [nI (cb (c + 1))]) P
  else I 35 c = 1 ∧ T = sr_end 0
def msh (cb bg : Nat → Nat) (I : mo_I) (J : mo_J) (b0 nv pb np : Nat) : Nat → Nat → sr → Prop
  | 0, _, _ => False
  | n + 1, c, T => ∃ X Y, mx I J b0 nv pb np 36 c X ∧ mx I J b0 nv pb np 37 c Y ∧ mb cb bg (msh cb bg I J b0 nv pb np n) I J b0 nv pb np n c T X Y
theorem msh_o {cb bg : Nat → Nat} {I : mo_I} {J : mo_J} {b0 nv pb np n c : Nat} {T : sr} : msh cb bg I J b0 nv pb np (n + 1) c T ↔ ∃ X Y, mx I J b0 nv pb np 36 c X ∧ mx I J b0 nv pb np 37 c Y ∧ mb cb bg (msh cb bg I J b0 nv pb np n) I J b0 nv pb np n c T X Y := Iff.rfl
/-- the cells of the parts from c to e are the same -/
def ms_eq (c e : Nat) (I I2 : mo_I) : Prop := (∀ k, 35 ≤ k → k ≤ 40 → ∀ j, c ≤ j → j < e → I2 k j = I k j) ∧ ∀ k, 41 ≤ k → k ≤ 43 → ∀ j, c ≤ j / (if k = 41 then 16 else 9) → j / (if k = 41 then 16 else 9) < e → I2 k j = I k j
theorem ms_eq.sub {c e c2 e2 : Nat} {I I2 : mo_I} (h : ms_eq c e I I2) (hc : c ≤ c2) (he : e2 ≤ e) : ms_eq c2 e2 I I2 := ⟨fun k a b j x y => h.1 k a b j (by omega) (by omega), fun k a b j x y => h.2 k a b j (by omega) (by omega)⟩
theorem mb.keep {cb bg : Nat → Nat} {K K2 : Nat → sr → Prop} {I I2 : mo_I} {J J2 : mo_J} {b0 nv pb np nv2 np2 n c e : Nat} {T : sr} {X Y : vt} (h : mb cb bg K I J b0 nv pb np n c T X Y) (hce : c < e) (he : ms_eq c e I I2) (hm : ma I J I2 J2 b0 nv pb np) (hn : nv ≤ nv2) (hp : np ≤ np2) (hp8 : np2 ≤ 8800) (hK : ∀ i U, i < qy_parts (cb c) → K (bg (c * 3 + i)) U → K2 (bg (c * 3 + i)) U) (h26 : cb c ≤ 26) : mb cb bg K2 I2 J2 b0 nv2 pb np2 n c T X Y := by
  have e35 := he.1 35 (by decide) (by decide) c (Nat.le_refl _) hce
  have e38 := he.1 38 (by decide) (by decide) c (Nat.le_refl _) hce
  have e40 := he.1 40 (by decide) (by decide) c (Nat.le_refl _) hce
  unfold mb at h ⊢
  rw [e35, e38, e40]
  split at h
  · rename_i k3; rw [if_pos k3]; exact h
  rename_i k3; rw [if_neg k3]
  split at h
  · rename_i k4; rw [if_pos k4]
    obtain ⟨h1, m, Vx, Ax, DV, h2, h3, h4, h5⟩ := h
    refine ⟨h1, m, Vx, Ax, DV, h2, h3, fun j hj => ?_, h5⟩
    obtain ⟨a1, a2, a3, a4, a5⟩ := h4 j hj
    exact ⟨(he.2 42 (by decide) (by decide) _ (by show c ≤ (9 * c + j) / 9; omega) (by show (9 * c + j) / 9 < e; omega)).trans a1, a2.keep hm hn hp hp8, a3, (he.2 43 (by decide) (by decide) _ (by show c ≤ (9 * c + j) / 9; omega) (by show (9 * c + j) / 9 < e; omega)).trans a4, a5⟩
  rename_i k4; rw [if_neg k4]
  split at h
  · rename_i k8; rw [if_pos k8]
    have hq : 2 ≤ qy_parts (cb c) ∧ (cb c = 11 → 3 ≤ qy_parts (cb c)) := by
      rcases k8 with k8 | k8 | k8
      · rw [k8]; decide
      · rw [k8]; decide
      · have : cb c = 22 ∨ cb c = 23 ∨ cb c = 24 ∨ cb c = 25 ∨ cb c = 26 := by omega
        rcases this with q | q | q | q | q <;> rw [q] <;> decide
    obtain ⟨ph, P, R, x, h1, h2, h3, h4, h5, h6⟩ := h
    exact ⟨ph, P, R, x, h1, h2, h3.keep e38 hm hn hp hp8, hK 0 P (by omega) h4, hK ph R (by omega) h5, h6⟩
  rename_i k8; rw [if_neg k8]
  split at h
  · rename_i k9; rw [if_pos k9]
    have hq : qy_parts (cb c) = 2 := by rw [k9]; decide
    rcases h with ⟨h1, P, h2, h3⟩ | ⟨h1, h2⟩
    · exact Or.inl ⟨h1, P, hK 0 P (by omega) h2, h3⟩
    · exact Or.inr ⟨h1, hK 1 T (by omega) h2⟩
  rename_i k9; rw [if_neg k9]
  split at h
  · rename_i k10; rw [if_pos k10]
    have hq : qy_parts (cb c) = 2 := by rw [k10]; decide
    rcases h with ⟨h1, g, P, h0, h2, h3⟩ | ⟨h1, h2⟩
    · exact Or.inl ⟨h1, g, P, h0, hK 0 P (by omega) h2, h3⟩
    · exact Or.inr ⟨h1, hK 1 T (by omega) h2⟩
  rename_i k10; rw [if_neg k10]
  split at h
  · rename_i k13; rw [if_pos k13]
    have hq : qy_parts (cb c) = 1 := by rw [k13]; decide
    obtain ⟨h1, P, h2, h3⟩ := h
    exact ⟨h1, P, hK 0 P (by omega) h2, h3⟩
  rename_i k13; rw [if_neg k13]
  split at h
  · rename_i k14; rw [if_pos k14]
    have hq : qy_parts (cb c) = 3 := by rw [k14]; decide
    obtain ⟨h1, P, h2, h3⟩ := h
    exact ⟨h1, P, hK 1 P (by omega) h2, h3⟩
  rename_i k14; rw [if_neg k14]
  split at h
  · rename_i k16; rw [if_pos k16]
    have hq : qy_parts (cb c) = 1 := by rw [k16]; decide
    obtain ⟨h1, h0, P, h2, h3⟩ := h
    exact ⟨h1, h0, P, hK 0 P (by omega) h2, h3⟩
  rename_i k16; rw [if_neg k16]; exact h
theorem msh.keep {cb bg : Nat → Nat} {N : Nat} {I I2 : mo_I} {J J2 : mo_J} {b0 nv pb np nv2 np2 : Nat} (hm : ma I J I2 J2 b0 nv pb np) (hn : nv ≤ nv2) (hp : np ≤ np2) (hp8 : np2 ≤ 8800) : ∀ {n q c e : Nat} {T : sr}, msh cb bg I J b0 nv pb np n c T → qn cb bg N q c e → ms_eq c e I I2 → msh cb bg I2 J2 b0 nv2 pb np2 n c T := by
  intro n
  induction n with
  | zero => intro q c e T h; exact h.elim
  | succ n ih =>
    intro q c e T h hq he
    cases q with
    | zero => exact hq.elim
    | succ q =>
      obtain ⟨⟨q1, q2, q3, -⟩, en, q4, q5⟩ := qn_o.mp hq
      obtain ⟨X, Y, h1, h2, h3⟩ := h
      refine ⟨X, Y, h1.keep (he.1 36 (by decide) (by decide) c (Nat.le_refl _) q1) hm hn hp hp8, h2.keep (he.1 37 (by decide) (by decide) c (Nat.le_refl _) q1) hm hn hp hp8, ?_⟩
      exact h3.keep q1 he hm hn hp hp8 (fun i U hi hU => ih hU (q4 i hi).2.2 (he.sub (by have := (q4 i hi).1; omega) (q4 i hi).2.1)) q3
