/-! The runner: where its cells lie (Z: the address of a role; rho: the role of an address, 0 for what is never written), what its steps show. -/
def rP (ρ : Nat → Nat) : Nat → Prop := fun b => ρ b = 0
def rU (r : Nat) : Prop := (1 ≤ r ∧ r ≤ 18) ∨ (100 ≤ r ∧ r < 124) ∨ (130 ≤ r ∧ r < 166) ∨ (1000 ≤ r ∧ r < 1250)
def rZ (ρ Z : Nat → Nat) : Prop := ∀ r, rU r → ρ (Z r) = r
theorem rz_ne {ρ Z : Nat → Nat} (hz : rZ ρ Z) {a b : Nat} (ha : rU a) (hb : rU b) (h : a ≠ b) : Z a ≠ Z b := fun e => h (by rw [← hz a ha, ← hz b hb, e])
/-- a part of the query, w deep -/
def qw (cb bg : Nat → Nat) (N : Nat) : Nat → Nat → Prop
  | 0, _ => False
  | w + 1, c => c < N ∧ cb c ≤ 26 ∧ (cb c = 1 ∨ cb c = 6 ∨ cb c = 16 → c + 1 < N ∧ 97 ≤ cb (c + 1) ∧ cb (c + 1) ≤ 122) ∧ (cb c = 2 ∨ cb c = 5 → c + 1 < N ∧ cb (c + 1) < 256) ∧ ∀ i, i < qy_parts (cb c) → qw cb bg N w (bg (c * 3 + i))
theorem qw_o {cb bg : Nat → Nat} {N w c : Nat} : qw cb bg N (w + 1) c ↔ c < N ∧ cb c ≤ 26 ∧ (cb c = 1 ∨ cb c = 6 ∨ cb c = 16 → c + 1 < N ∧ 97 ≤ cb (c + 1) ∧ cb (c + 1) ≤ 122) ∧ (cb c = 2 ∨ cb c = 5 → c + 1 < N ∧ cb (c + 1) < 256) ∧ ∀ i, i < qy_parts (cb c) → qw cb bg N w (bg (c * 3 + i)) := Iff.rfl
/-- what a run never changes -/
def rn_K (E : gh_E) (ρ Z : Nat → Nat) (f : gh_F) (q0 N : Nat) (cb bg : Nat → Nat) : Prop := rZ ρ Z ∧ (ρ (Z 206) = 0 ∧ ρ (Z 207) = 0) ∧ (∃ gS : Nat → Option Nat, f (Z 206) = some (.inl (E.2.2.1 6, 250, .inr (.inr (.inr (.inr gS))))) ∧ ∀ j, j < 250 → gS j = some (Z (1000 + j))) ∧ (∃ gG : Nat → Option Nat, f (Z 207) = some (.inl (E.2.2.1 5, 12, .inr (.inr (.inr (.inr gG))))) ∧ ∀ j, j < 12 → gG j = some (Z (130 + 3 * j))) ∧ vs_C E (rP ρ) f (Z 200) (Z 201) (Z 202) (Z 203) (Z 204) (Z 205) (Z 3) ∧ f (Z q0) = some (.inr (2, [.ref (Z (q0 + 1)), .ref (Z (q0 + 2)), .int (nI N)])) ∧ f (Z (q0 + 1)) = some (.inl (E.2.2.1 0, 60, .inl (fun j => nI (cb j)))) ∧ f (Z (q0 + 2)) = some (.inl (E.2.2.1 0, 180, .inl (fun j => nI (bg j)))) ∧ N ≤ 60 ∧ (q0 = 12 ∨ q0 = 15)
theorem rn_K.keep {E : gh_E} {ρ Z : Nat → Nat} {f g : gh_F} {q0 N : Nat} {cb bg : Nat → Nat} {M : Nat → Prop} (h : rn_K E ρ Z f q0 N cb bg) (hfr : gh_fr f g M) (hM : ∀ b, M b → ρ b ≠ 0 ∧ ¬ (12 ≤ ρ b ∧ ρ b ≤ 17)) : rn_K E ρ Z g q0 N cb bg := by
  obtain ⟨hz, ⟨p1, p2⟩, ⟨gS, h1, h2⟩, ⟨gG, h3, h4⟩, h5, h6, h7, h8, h9, h10⟩ := h
  have hq : ∀ r, 12 ≤ r → r ≤ 17 → ¬ M (Z r) := fun r a b z => by
    have e : ρ (Z r) = r := hz r (by unfold rU; omega)
    exact (hM _ z).2 (by rw [e]; exact ⟨a, b⟩)
  exact ⟨hz, ⟨p1, p2⟩, ⟨gS, hfr.at h1 (fun z => (hM _ z).1 p1), h2⟩, ⟨gG, hfr.at h3 (fun z => (hM _ z).1 p2), h4⟩, h5.keep hfr (fun b hb => (hM b hb).1), hfr.at h6 (hq _ (by omega) (by omega)), hfr.at h7 (hq _ (by omega) (by omega)), hfr.at h8 (hq _ (by omega) (by omega)), h9, h10⟩
def rn_G (E : gh_E) (ρ Z : Nat → Nat) (f : gh_F) : Prop := ga_0 E (rP ρ) f (Z 3) (Z 4) (Z 5) ∧ ∀ j, j < 12 → ga_0 E (rP ρ) f (Z (130 + 3 * j)) (Z (131 + 3 * j)) (Z (132 + 3 * j))
def rn_S (Z : Nat → Nat) (f : gh_F) : Prop := ∀ j, j < 250 → ∃ x0 x1 x2 x3 x4 x5 x6 x7 x8 : Value, f (Z (1000 + j)) = some (.inr (5, [x0, x1, x2, x3, x4, x5, x6, x7, x8]))
/-- the runner with fuel phi and b steps begun -/
def rn_R (E : gh_E) (ρ Z : Nat → Nat) (f : gh_F) (q0 N : Nat) (cb bg : Nat → Nat) (φ b : Nat) (s0 e0 : Int32) : Prop := f (Z 1) = some (.inr (4, [.ref (Z 200), .ref (Z 206), .ref (Z 207), .ref (Z 2), .ref (Z q0), .int (nI b), .int (nI φ), .int s0, .int e0])) ∧ rn_K E ρ Z f q0 N cb bg ∧ rn_G E ρ Z f ∧ rn_S Z f ∧ ∀ q, f q = none → ρ q = 0
theorem rn_G.keep {E : gh_E} {ρ Z : Nat → Nat} {f g : gh_F} {M : Nat → Prop} (h : rn_G E ρ Z f) (hz : rZ ρ Z) (hfr : gh_fr f g M) (hM : ∀ b, M b → ¬ (3 ≤ ρ b ∧ ρ b ≤ 5) ∧ ¬ (130 ≤ ρ b ∧ ρ b < 166)) : rn_G E ρ Z g := by
  have k1 : ∀ r, 3 ≤ r → r ≤ 5 → ¬ M (Z r) := fun r a b z => by
    have e : ρ (Z r) = r := hz r (by unfold rU; omega)
    exact (hM _ z).1 (by rw [e]; exact ⟨a, b⟩)
  have k2 : ∀ r, 130 ≤ r → r < 166 → ¬ M (Z r) := fun r a b z => by
    have e : ρ (Z r) = r := hz r (by unfold rU; omega)
    exact (hM _ z).2 (by rw [e]; exact ⟨a, b⟩)
  exact ⟨h.1.keep hfr (k1 _ (by omega) (by omega)) (k1 _ (by omega) (by omega)) (k1 _ (by omega) (by omega)), fun j hj => (h.2 j hj).keep hfr (k2 _ (by omega) (by omega)) (k2 _ (by omega) (by omega)) (k2 _ (by omega) (by omega))⟩
theorem rn_non {ρ : Nat → Nat} {f g : gh_F} {M : Nat → Prop} (h : ∀ q, f q = none → ρ q = 0) (hfr : gh_fr f g M) : ∀ q, g q = none → ρ q = 0 := fun q hq => h q (hfr.non hq)
/-- a step's cell is written -/
theorem rn_R.step {E : gh_E} {ρ Z : Nat → Nat} {f : gh_F} {q0 N : Nat} {cb bg : Nat → Nat} {φ b : Nat} {s0 e0 : Int32} (h : rn_R E ρ Z f q0 N cb bg φ b s0 e0) {k : Nat} (hk : k < 250) {x0 x1 x2 x3 x4 x5 x6 x7 x8 : Value} : rn_R E ρ Z (gh_u f (Z (1000 + k)) (.inr (5, [x0, x1, x2, x3, x4, x5, x6, x7, x8]))) q0 N cb bg φ b s0 e0 := by
  obtain ⟨h1, h2, h3, h4, h5⟩ := h
  have hz := h2.1
  have hr : ρ (Z (1000 + k)) = 1000 + k := hz _ (by unfold rU; omega)
  have hfr : gh_fr f (gh_u f (Z (1000 + k)) (.inr (5, [x0, x1, x2, x3, x4, x5, x6, x7, x8]))) (fun b => ρ b = 1000 + k) := gh_fr.rf.put (Or.inl hr)
  refine ⟨hfr.at h1 (fun z => ?_), h2.keep hfr (fun b hb => ?_), h3.keep hz hfr (fun b hb => ?_), fun j hj => ?_, rn_non h5 hfr⟩
  · have e := hz 1 (by unfold rU; omega)
    have z : ρ (Z 1) = 1000 + k := z
    omega
  · have hb : ρ b = 1000 + k := hb
    omega
  · have hb : ρ b = 1000 + k := hb
    omega
  · by_cases hjk : j = k
    · subst hjk
      exact ⟨_, _, _, _, _, _, _, _, _, gh_us⟩
    · obtain ⟨y0, y1, y2, y3, y4, y5, y6, y7, y8, hy⟩ := h4 j hj
      refine ⟨y0, y1, y2, y3, y4, y5, y6, y7, y8, ?_⟩
      rw [gh_un (rz_ne hz (by unfold rU; omega) (by unfold rU; omega) (by omega))]
      exact hy
/-- the runner's own cell is written -/
theorem rn_R.own {E : gh_E} {ρ Z : Nat → Nat} {f : gh_F} {q0 N : Nat} {cb bg : Nat → Nat} {φ b φ1 b1 : Nat} {s0 e0 s1 e1 : Int32} (h : rn_R E ρ Z f q0 N cb bg φ b s0 e0) : rn_R E ρ Z (gh_u f (Z 1) (.inr (4, [.ref (Z 200), .ref (Z 206), .ref (Z 207), .ref (Z 2), .ref (Z q0), .int (nI b1), .int (nI φ1), .int s1, .int e1]))) q0 N cb bg φ1 b1 s1 e1 := by
  obtain ⟨h1, h2, h3, h4, h5⟩ := h
  have hz := h2.1
  have hr : ρ (Z 1) = 1 := hz _ (by unfold rU; omega)
  have hfr : gh_fr f (gh_u f (Z 1) (.inr (4, [.ref (Z 200), .ref (Z 206), .ref (Z 207), .ref (Z 2), .ref (Z q0), .int (nI b1), .int (nI φ1), .int s1, .int e1]))) (fun b => ρ b = 1) := gh_fr.rf.put (Or.inl hr)
  refine ⟨gh_us, h2.keep hfr (fun b hb => ?_), h3.keep hz hfr (fun b hb => ?_), fun j hj => ?_, rn_non h5 hfr⟩
  · have hb : ρ b = 1 := hb
    omega
  · have hb : ρ b = 1 := hb
    omega
  · obtain ⟨y0, y1, y2, y3, y4, y5, y6, y7, y8, hy⟩ := h4 j hj
    refine ⟨y0, y1, y2, y3, y4, y5, y6, y7, y8, ?_⟩
    rw [gh_un (rz_ne hz (by unfold rU; omega) (by unfold rU; omega) (by omega))]
    exact hy
/-- what an ask may write: the runner, the gathering of values, gatherings from depth d on, steps from b on and those of F -/
def rn_M (ρ : Nat → Nat) (d b : Nat) (F : Nat → Prop) : Nat → Prop := fun a => ρ a = 1 ∨ (3 ≤ ρ a ∧ ρ a ≤ 5) ∨ (130 + 3 * d ≤ ρ a ∧ ρ a < 166) ∨ (1000 + b ≤ ρ a ∧ ρ a < 1250) ∨ ∃ j, F j ∧ ρ a = 1000 + j
theorem rn_M.P {ρ : Nat → Nat} {d b : Nat} {F : Nat → Prop} : ∀ a, rn_M ρ d b F a → ¬ rP ρ a := by
  intro a h z
  have z : ρ a = 0 := z
  rcases h with h | h | h | h | ⟨j, -, h⟩ <;> omega
theorem rn_M.st {ρ Z : Nat → Nat} {d b : Nat} {F : Nat → Prop} (hz : rZ ρ Z) {k : Nat} (hk : k < 250) (hb : k < b) (hF : ¬ F k) : ¬ rn_M ρ d b F (Z (1000 + k)) := by
  intro h
  have e : ρ (Z (1000 + k)) = 1000 + k := hz _ (by unfold rU; omega)
  rcases h with h | h | h | h | ⟨j, hj, h⟩
  · omega
  · omega
  · omega
  · omega
  · have : j = k := by omega
    subst this
    exact hF hj
theorem rn_M.ga {ρ Z : Nat → Nat} {d b : Nat} {F : Nat → Prop} (hz : rZ ρ Z) {r : Nat} (h1 : 130 ≤ r) (h2 : r < 130 + 3 * d) (h3 : r < 166) : ¬ rn_M ρ d b F (Z r) := by
  intro h
  have e : ρ (Z r) = r := hz _ (by unfold rU; omega)
  rcases h with h | h | h | h | ⟨j, hj, h⟩ <;> omega
theorem rn_M.le {ρ : Nat → Nat} {d b d1 b1 : Nat} {F F1 : Nat → Prop} (hd : d ≤ d1) (hF : ∀ j, F1 j → F j ∨ (b ≤ j ∧ j < 250)) (hb : b ≤ b1) : ∀ a, rn_M ρ d1 b1 F1 a → rn_M ρ d b F a := by
  intro a h
  rcases h with h | h | h | h | ⟨j, hj, h⟩
  · exact Or.inl h
  · exact Or.inr (Or.inl h)
  · exact Or.inr (Or.inr (Or.inl (by omega)))
  · exact Or.inr (Or.inr (Or.inr (Or.inl (by omega))))
  · rcases hF j hj with h2 | h2
    · exact Or.inr (Or.inr (Or.inr (Or.inr ⟨j, h2, h⟩)))
    · exact Or.inr (Or.inr (Or.inr (Or.inl (by omega))))
def ro (Z : Nat → Nat) (o : Option Nat) : Value := match o with
  | none => .null
  | some j => .ref (Z (1000 + j))
/-- a step within step k, and what it shows -/
def rs_sub (R : Nat → vt → sr → (Nat → Prop) → Prop) (o : Option Nat) (k : Nat) (F : Nat → Prop) (Q : vt → sr → (Nat → Prop) → Prop) : Prop := ∃ (j : Nat) (v : vt) (T : sr) (F1 : Nat → Prop), o = some j ∧ R j v T F1 ∧ (∀ i, F1 i → F i) ∧ ¬ F1 k ∧ Q v T F1
/-- a step that has given a value: T is still to come -/
def rs_run (cb : Nat → Nat) (c k gv pl : Nat) (X : vt) (dp : vt → sr) (D : Nat → vt → vt → sr) (Y : vt) (fi se : Option Nat) (F : Nat → Prop) (R : Nat → vt → sr → (Nat → Prop) → Prop) (T : sr) : Prop :=
  (cb c = 3 → vt_hi X = true ∧ gv ≤ vt_c X ∧ T = sr_eac X (vt_c X - gv) gv) ∧
  (cb c = 4 → pl ≤ vt_c X ∧ ((fi = none ∧ T = sr_its dp X (vt_c X - pl) pl) ∨ rs_sub R fi k F (fun _ T1 _ => T = sr_seq T1 (sr_its dp X (vt_c X - pl) pl)))) ∧
  (cb c = 8 ∨ cb c = 11 ∨ 22 ≤ cb c → rs_sub R fi k F (fun v1 T1 F1 => rs_sub R se k F (fun _ T2 F2 => (∀ i, F1 i → ¬ F2 i) ∧ T = sr_seq (sr_op (sr_e (cb c)) (sr_h (cb c) v1) T2) (sr_bind (fun x => sr_op (sr_e (cb c)) (sr_h (cb c) x) (sr_G (cb c) D X Y x)) T1)))) ∧
  (cb c = 9 → (se = none ∧ rs_sub R fi k F (fun _ T1 _ => T = sr_seq T1 (D 1 X Y))) ∨ rs_sub R se k F (fun _ T2 _ => T = T2)) ∧
  (cb c = 10 → (se = none ∧ rs_sub R fi k F (fun _ T1 _ => T = sr_els (D 1 X Y) true T1)) ∨ rs_sub R se k F (fun _ T2 _ => T = T2)) ∧
  (cb c = 13 → rs_sub R fi k F (fun _ T1 _ => T = sr_try T1)) ∧
  (cb c = 14 → rs_sub R se k F (fun _ T2 _ => T = sr_fol (D 0 X Y) (fun v x => D 2 v x) T2)) ∧
  (cb c = 16 → (vt_k X = 0 ∨ vt_k X = 6) ∧ rs_sub R fi k F (fun _ T1 _ => T = sr_op 1 (vt_wm X [nI (cb (c + 1))]) T1)) ∧
  (cb c ≠ 3 ∧ cb c ≠ 4 ∧ cb c ≠ 8 ∧ cb c ≠ 9 ∧ cb c ≠ 10 ∧ cb c ≠ 11 ∧ cb c ≠ 13 ∧ cb c ≠ 14 ∧ cb c ≠ 16 ∧ cb c < 22 → T = sr_end 0)
/-- step k (u: 1 if it was not asked yet) has the value v, and T is to come; F: the steps that this rests on -/
def rs (E : gh_E) (ρ Z : Nat → Nat) (cb bg : Nat → Nat) (N : Nat) (f : gh_F) (φ : Nat) : Nat → Nat → Nat → vt → sr → (Nat → Prop) → Prop
  | 0, _, _, _, _, _ => False
  | n + 1, u, k, v, T, F => ∃ (c w it el gv pl va : Nat) (X Y : vt) (fi se : Option Nat), f (Z (1000 + k)) = some (.inr (5, [.int (nI c), .int (nI (19 - n)), .ref it, .ref el, ro Z fi, ro Z se, .int (nI gv), .int (nI pl), .ref va])) ∧ (k < 250 ∧ n ≤ 19 ∧ F k) ∧ (qw cb bg N w c ∧ (cb c = 4 → vt_h X ≤ n) ∧ (cb c ≠ 4 → w + 6 ≤ n)) ∧ (cw E (rP ρ) f it X ∧ cw E (rP ρ) f el Y ∧ cw E (rP ρ) f va v) ∧ (∃ q, q ≤ 16 ∧ zr q T.1 ∧ gv + 16 * φ + q ≤ 5000) ∧ ((u = 1 ∧ gv = 0 ∧ pl = 0 ∧ fi = none ∧ se = none ∧ v = vt_0 0 ∧ T = sr_B cb bg (n + 1) c X Y) ∨ (u = 0 ∧ 1 ≤ gv ∧ rs_run cb c k gv pl X (fun Z => sr_D cb bg n c Z Y) (fun i Z W => sr_D cb bg n (bg (c * 3 + i)) Z W) Y fi se F (fun j v T F => rs E ρ Z cb bg N f φ n 0 j v T F) T))
theorem rs_o {E : gh_E} {ρ Z : Nat → Nat} {cb bg : Nat → Nat} {N : Nat} {f : gh_F} {φ n u k : Nat} {v : vt} {T : sr} {F : Nat → Prop} : rs E ρ Z cb bg N f φ (n + 1) u k v T F ↔ ∃ (c w it el gv pl va : Nat) (X Y : vt) (fi se : Option Nat), f (Z (1000 + k)) = some (.inr (5, [.int (nI c), .int (nI (19 - n)), .ref it, .ref el, ro Z fi, ro Z se, .int (nI gv), .int (nI pl), .ref va])) ∧ (k < 250 ∧ n ≤ 19 ∧ F k) ∧ (qw cb bg N w c ∧ (cb c = 4 → vt_h X ≤ n) ∧ (cb c ≠ 4 → w + 6 ≤ n)) ∧ (cw E (rP ρ) f it X ∧ cw E (rP ρ) f el Y ∧ cw E (rP ρ) f va v) ∧ (∃ q, q ≤ 16 ∧ zr q T.1 ∧ gv + 16 * φ + q ≤ 5000) ∧ ((u = 1 ∧ gv = 0 ∧ pl = 0 ∧ fi = none ∧ se = none ∧ v = vt_0 0 ∧ T = sr_B cb bg (n + 1) c X Y) ∨ (u = 0 ∧ 1 ≤ gv ∧ rs_run cb c k gv pl X (fun Z => sr_D cb bg n c Z Y) (fun i Z W => sr_D cb bg n (bg (c * 3 + i)) Z W) Y fi se F (fun j v T F => rs E ρ Z cb bg N f φ n 0 j v T F) T)) := Iff.rfl
theorem rs_sub.imp {R R1 : Nat → vt → sr → (Nat → Prop) → Prop} {o : Option Nat} {k : Nat} {F : Nat → Prop} {Q Q1 : vt → sr → (Nat → Prop) → Prop} (h : rs_sub R o k F Q) (hR : ∀ j v T F1, (∀ i, F1 i → F i) → R j v T F1 → R1 j v T F1) (hQ : ∀ v T F1, Q v T F1 → Q1 v T F1) : rs_sub R1 o k F Q1 := by
  obtain ⟨j, v, T, F1, h1, h2, h3, h4, h5⟩ := h
  exact ⟨j, v, T, F1, h1, hR j v T F1 h3 h2, h3, h4, hQ v T F1 h5⟩
theorem rs.keep {E : gh_E} {ρ Z : Nat → Nat} {cb bg : Nat → Nat} {N : Nat} {f g : gh_F} {φ φ1 : Nat} {M : Nat → Prop} (hfr : gh_fr f g M) (hM : ∀ b, M b → ¬ rP ρ b) (hφ : φ1 ≤ φ) : ∀ {n u k : Nat} {v : vt} {T : sr} {F : Nat → Prop}, rs E ρ Z cb bg N f φ n u k v T F → (∀ j, F j → ¬ M (Z (1000 + j))) → rs E ρ Z cb bg N g φ1 n u k v T F := by
  intro n
  induction n with
  | zero => intro u k v T F h; exact h.elim
  | succ n ih =>
    intro u k v T F h hF
    obtain ⟨c, w, it, el, gv, pl, va, X, Y, fi, se, h1, h2, h3, ⟨c1, c2, c3⟩, ⟨q, q1, q2, q3⟩, h5⟩ := h
    have hR : ∀ j v T F1, (∀ i, F1 i → F i) → rs E ρ Z cb bg N f φ n 0 j v T F1 → rs E ρ Z cb bg N g φ1 n 0 j v T F1 := fun j v T F1 hs hr => ih hr (fun i hi => hF i (hs i hi))
    refine ⟨c, w, it, el, gv, pl, va, X, Y, fi, se, hfr.at h1 (hF k h2.2.2), h2, h3, ⟨c1.keep hfr hM, c2.keep hfr hM, c3.keep hfr hM⟩, ⟨q, q1, q2, by omega⟩, ?_⟩
    rcases h5 with h5 | ⟨hu, hg, r1, r2, r3, r4, r5, r6, r7, r8, r9⟩
    · exact Or.inl h5
    · refine Or.inr ⟨hu, hg, r1, fun z => ?_, fun z => ?_, fun z => ?_, fun z => ?_, fun z => (r6 z).imp hR (fun _ _ _ h => h), fun z => (r7 z).imp hR (fun _ _ _ h => h), fun z => ⟨(r8 z).1, (r8 z).2.imp hR (fun _ _ _ h => h)⟩, r9⟩
      · refine ⟨(r2 z).1, ?_⟩
        rcases (r2 z).2 with h | h
        · exact Or.inl h
        · exact Or.inr (h.imp hR (fun _ _ _ h => h))
      · exact (r3 z).imp hR (fun _ _ _ h => h.imp hR (fun _ _ _ h => h))
      · rcases r4 z with h | h
        · exact Or.inl ⟨h.1, h.2.imp hR (fun _ _ _ h => h)⟩
        · exact Or.inr (h.imp hR (fun _ _ _ h => h))
      · rcases r5 z with h | h
        · exact Or.inl ⟨h.1, h.2.imp hR (fun _ _ _ h => h)⟩
        · exact Or.inr (h.imp hR (fun _ _ _ h => h))
/-- how an ask is answered: starves, ends, fails, gives -/
def rk_P (φ : Nat) (T : sr) (r : Option Value) (φ1 : Nat) (K : vt → sr → Prop) : Prop := (φ < sr_c T ∧ r = some (.int 2) ∧ φ1 = 0) ∨ (∃ d, T = sr_end d ∧ d ≤ φ ∧ r = some (.int 0) ∧ φ1 = φ - d) ∨ (∃ d, T = sr_fail d ∧ d ≤ φ ∧ r = some (.int 1) ∧ φ1 = φ - d) ∨ ∃ d x R, T = sr_cons d x R ∧ d ≤ φ ∧ r = some (.int 3) ∧ φ1 = φ - d ∧ K x R
/-- the step's value is v -/
def rk_V (E : gh_E) (ρ Z : Nat → Nat) (g : gh_F) (k : Nat) (v : vt) : Prop := ∃ (y0 y1 y2 y3 y4 y5 y6 y7 : Value) (a : Nat), g (Z (1000 + k)) = some (.inr (5, [y0, y1, y2, y3, y4, y5, y6, y7, .ref a])) ∧ cw E (rP ρ) g a v
theorem rv_ne {a b : Int32} (h : a ≠ b) : (some (.int a) : Option Value) ≠ some (.int b) := fun z => by
  injection z with z
  injection z with z
  exact h z
def rk_Q (E : gh_E) (ρ Z : Nat → Nat) (q0 N : Nat) (cb bg : Nat → Nat) (n : Nat) (f : gh_F) (φ b : Nat) (s0 e0 : Int32) (k : Nat) (v : vt) (T : sr) (F : Nat → Prop) (r : Option Value) (g : gh_F) : Prop := ∃ φ1 b1, rn_R E ρ Z g q0 N cb bg φ1 b1 s0 e0 ∧ (b ≤ b1 ∧ b1 + φ1 ≤ b + φ) ∧ gh_fr f g (rn_M ρ (20 - n) b F) ∧ rk_P φ T r φ1 (fun x R => ∃ F1 : Nat → Prop, rs E ρ Z cb bg N g φ1 n 0 k x R F1 ∧ ∀ j, F1 j → F j ∨ (b ≤ j ∧ j < b1)) ∧ (r = some (.int 0) → rk_V E ρ Z g k v)
/-- the contract of ask, for parts n deep -/
def rk_A (l : Launch) (E : gh_E) (ρ Z : Nat → Nat) (q0 N : Nat) (cb bg : Nat → Nat) (n : Nat) : Prop := ∀ (sz : Nat) (f : gh_F) (φ b : Nat) (s0 e0 : Int32) (u k : Nat) (v : vt) (T : sr) (F : Nat → Prop), rn_R E ρ Z f q0 N cb bg φ b s0 e0 → φ + b ≤ 250 → (∀ j, F j → j < b) → rs E ρ Z cb bg N f φ n u k v T F → gh_M l y_Ru_ask b_Ru_ask 2 (some .int) E sz [.ref (Z 1), .ref (Z (1000 + k))] f { frames := 20 + 6 * n, cells := 3 * (min (sr_c T) φ + u), slots := 39 * (min (sr_c T) φ + u), locals := 700 + 200 * n } (rk_Q E ρ Z q0 N cb bg n f φ b s0 e0 k v T F)
