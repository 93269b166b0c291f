/-! For each value of p what begins for it: the two streams together. -/
def sr_fb (e : Nat) (h : vt → vt → Option vt) (G : vt → sr) (T1 : sr) : sr := sr_bind (fun x => sr_op e (h x) (G x)) T1
def sr_fe (e : Nat) (h : vt → vt → Option vt) (G : vt → sr) (v : vt) (T2 T1 : sr) : sr := sr_seq (sr_op e (h v) T2) (sr_fb e h G T1)
theorem sr_fb_end {e : Nat} {h : vt → vt → Option vt} {G : vt → sr} {d : Nat} : sr_fb e h G (sr_end d) = sr_end d := rfl
theorem sr_fb_fail {e : Nat} {h : vt → vt → Option vt} {G : vt → sr} {d : Nat} : sr_fb e h G (sr_fail d) = sr_fail d := rfl
theorem sr_fb_cons {e : Nat} {h : vt → vt → Option vt} {G : vt → sr} {d : Nat} {x : vt} {R : sr} : sr_fb e h G (sr_cons d x R) = sr_add d (sr_fe e h G x (G x) R) := rfl
theorem sr_fe_end {e : Nat} {h : vt → vt → Option vt} {G : vt → sr} {v : vt} {d : Nat} {T1 : sr} : sr_fe e h G v (sr_end d) T1 = sr_add d (sr_fb e h G T1) := rfl
theorem sr_fe_fail {e : Nat} {h : vt → vt → Option vt} {G : vt → sr} {v : vt} {d : Nat} {T1 : sr} : sr_fe e h G v (sr_fail d) T1 = sr_fail d := rfl
theorem sr_fe_add {e : Nat} {h : vt → vt → Option vt} {G : vt → sr} {v : vt} {d : Nat} {T2 T1 : sr} : sr_fe e h G v (sr_add d T2) T1 = sr_add d (sr_fe e h G v T2 T1) := by
  unfold sr_fe
  rw [sr_op_add, sr_seq_add]
theorem sr_fe_c {e : Nat} {h : vt → vt → Option vt} {G : vt → sr} {v : vt} {T2 T1 : sr} : sr_c T2 ≤ sr_c (sr_fe e h G v T2 T1) := Nat.le_trans sr_op_c sr_seq_c
theorem sr_fb_c {e : Nat} {h : vt → vt → Option vt} {G : vt → sr} {T1 : sr} : sr_c T1 ≤ sr_c (sr_fb e h G T1) := by
  rcases sr_cases T1 with ⟨d, x, R, rfl⟩ | ⟨d, rfl⟩ | ⟨d, rfl⟩
  · rw [sr_fb_cons, sr_c_add]; exact Nat.le_add_right _ _
  · exact Nat.le_refl _
  · exact Nat.le_refl _
/-- the next value of the other part -/
theorem sr_fe_cons {e : Nat} {h : vt → vt → Option vt} {G : vt → sr} {v : vt} {d : Nat} {y : vt} {R T1 : sr} : sr_fe e h G v (sr_cons d y R) T1 = sr_add d (sr_fe e h G v (sr_cons 0 y R) T1) := by
  rw [← sr_fe_add, sr_add_cons, Nat.add_zero]
theorem sr_fe_some {e : Nat} {h : vt → vt → Option vt} {G : vt → sr} {v y z : vt} {R T1 : sr} (q : h v y = some z) : sr_fe e h G v (sr_cons 0 y R) T1 = sr_cons e z (sr_fe e h G v R T1) := by
  unfold sr_fe
  rw [sr_op_some q, Nat.zero_add, sr_seq_cons]
theorem sr_fe_none {e : Nat} {h : vt → vt → Option vt} {G : vt → sr} {v y : vt} {R T1 : sr} (q : h v y = none) : sr_fe e h G v (sr_cons 0 y R) T1 = sr_fail e := by
  unfold sr_fe
  rw [sr_op_none q, Nat.zero_add, sr_seq_fail]
theorem sr_fe_cc {e : Nat} {h : vt → vt → Option vt} {G : vt → sr} {v y : vt} {R T1 : sr} : sr_c (sr_fe e h G v (sr_cons 0 y R) T1) = e := by
  cases q : h v y with
  | none => rw [sr_fe_none q]; rfl
  | some z => rw [sr_fe_some q]; rfl
def rk_F (E : gh_E) (ρ Z : Nat → Nat) (cb bg : Nat → Nat) (N : Nat) (f : gh_F) (φ b n k : Nat) (fi se : Option Nat) (p : Nat) (X Y : vt) (G : vt → sr) (u cc : Nat) (Bs : Nat → (vt → vt → Option vt) → sr) (F : Nat → Prop) : Prop :=
  (se = none ∧ u = 0 ∧ ∃ T1 F1, rk_S E ρ Z cb bg N f φ b n k fi p X Y T1 F1 ∧ (∀ i, F1 i → F i) ∧ ∀ e h, Bs e h = sr_add cc (sr_fb e h G T1)) ∨
  (∃ j1 j2 v1 v2 T1 T2 F1 F2, fi = some j1 ∧ se = some j2 ∧ rs E ρ Z cb bg N f φ n 0 j1 v1 T1 F1 ∧ rs E ρ Z cb bg N f φ n u j2 v2 T2 F2 ∧ ((∀ i, F1 i → F i) ∧ (∀ i, F2 i → F i) ∧ ¬ F1 k ∧ ¬ F2 k ∧ ∀ i, F1 i → ¬ F2 i) ∧ ∀ e h, Bs e h = sr_add cc (sr_fe e h G v1 T2 T1))
/-- the answer: the next value y of q, with the value v of p -/
def rk_E (φ : Nat) (G : vt → sr) (Bs : Nat → (vt → vt → Option vt) → sr) (r : Option Value) (φ1 : Nat) (K : vt → vt → sr → sr → Prop) : Prop :=
  ((∀ e h, φ < sr_c (Bs e h)) ∧ r = some (.int 2) ∧ φ1 = 0) ∨ (∃ d, (∀ e h, Bs e h = sr_end d) ∧ d ≤ φ ∧ r = some (.int 0) ∧ φ1 = φ - d) ∨ (∃ d, (∀ e h, Bs e h = sr_fail d) ∧ d ≤ φ ∧ r = some (.int 1) ∧ φ1 = φ - d) ∨ ∃ d v y T2 T1, (∀ e h, Bs e h = sr_add d (sr_fe e h G v (sr_cons 0 y T2) T1)) ∧ d ≤ φ ∧ r = some (.int 3) ∧ φ1 = φ - d ∧ K v y T2 T1
theorem sr_G_eq {k : Nat} {D : Nat → vt → vt → sr} {X Y x : vt} : sr_G k D X Y x = D (if k = 11 ∧ vt_tr x = false then 2 else 1) (if k = 8 then x else X) Y := by
  unfold sr_G
  by_cases h8 : k = 8
  · rw [if_pos h8, if_neg (fun z => by omega), if_pos h8]
  · rw [if_neg h8, if_neg h8]
    by_cases h11 : k = 11 ∧ vt_tr x = false
    · rw [if_pos h11, if_pos h11]
    · rw [if_neg h11, if_neg h11]
theorem nx_lt : ∀ k, k < 27 → (k = 8 ∨ k = 11 ∨ 22 ≤ k) → ∀ t : Bool, (if k = 11 ∧ t = false then 2 else 1) < qy_parts k := by decide
