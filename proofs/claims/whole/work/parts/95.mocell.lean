/-! The cells of a part in the model, and how one turn of the run ends. -/
/-- from (S, I) to (S2, I2): the part c has the cells C, of the others only those of D may have changed -/
def mct (c w : Nat) (D : Nat → Prop) (C : Nat → Int32) (S : Nat → Int32) (I : mo_I) (S2 : Nat → Int32) (I2 : mo_I) : Prop := (∀ k, k ≠ 16 → k ≠ 45 → k ≠ 46 → k ≠ 47 → k ≠ 48 → k ≠ 49 → S2 k = S k) ∧ (∀ k, k < 35 ∨ 45 ≤ k → k ≠ 14 → k ≠ 15 → k ≠ 58 → k ≠ 59 → I2 k = I k) ∧ (∀ k, 41 ≤ k → k ≤ 43 → ∀ j, j / (if k = 41 then 16 else 9) ≠ c → I2 k j = I k j) ∧ (∀ j, j ≤ w → I2 44 j = I 44 j) ∧ ∀ k, 35 ≤ k → k ≤ 40 → (∀ j, j ≠ c → ¬ D j → I2 k j = I k j) ∧ I2 k c = C k
theorem mct.rf {c w : Nat} {S : Nat → Int32} {I : mo_I} : mct c w (fun _ => False) (fun k => I k c) S I S I := ⟨fun _ _ _ _ _ _ _ => rfl, fun _ _ _ _ _ _ => rfl, fun _ _ _ _ _ => rfl, fun _ _ => rfl, fun _ _ _ => ⟨fun _ _ _ => rfl, rfl⟩⟩
theorem mct.cell {c w : Nat} {D : Nat → Prop} {C : Nat → Int32} {S S2 : Nat → Int32} {I I2 : mo_I} (h : mct c w D C S I S2 I2) (k : Nat) (v : Int32) (h35 : 35 ≤ k) (h40 : k ≤ 40) : mct c w D (va_up C k v) S I S2 (va_up I2 k (upd (I2 k) c v)) := by
  refine ⟨h.1, fun q h1 h2 h3 h4 h5 => (va_up_n (by omega)).trans (h.2.1 q h1 h2 h3 h4 h5), fun q h1 h2 j hj => (congrFun (va_up_n (by omega)) j).trans (h.2.2.1 q h1 h2 j hj), fun j hj => (congrFun (va_up_n (by omega)) j).trans (h.2.2.2.1 j hj), fun q h1 h2 => ?_⟩
  have hq := h.2.2.2.2 q h1 h2
  by_cases e : q = k
  · subst e
    refine ⟨fun j hj hD => ?_, ?_⟩
    · rw [va_up_s]; simp only [upd]; rw [if_neg hj]; exact hq.1 j hj hD
    · rw [va_up_s, va_up_s]; simp [upd]
  · exact ⟨fun j hj hD => (congrFun (va_up_n e) j).trans (hq.1 j hj hD), by rw [va_up_n e, va_up_n e]; exact hq.2⟩
theorem mct.s {c w : Nat} {D : Nat → Prop} {C : Nat → Int32} {S S2 : Nat → Int32} {I I2 : mo_I} (h : mct c w D C S I S2 I2) {k : Nat} {v : Int32} (hk : k = 16 ∨ (45 ≤ k ∧ k ≤ 49)) : mct c w D C S I (va_up S2 k v) I2 :=
  ⟨fun q h1 h2 h3 h4 h5 h6 => (va_up_n (by omega)).trans (h.1 q h1 h2 h3 h4 h5 h6), h.2⟩
theorem mct.path {c w : Nat} {D : Nat → Prop} {C : Nat → Int32} {S S2 : Nat → Int32} {I I2 : mo_I} (h : mct c w D C S I S2 I2) {j0 : Nat} {v : Int32} (hj0 : w < j0) : mct c w D C S I S2 (va_up I2 44 (upd (I2 44) j0 v)) := by
  refine ⟨h.1, fun q h1 h2 h3 h4 h5 => (va_up_n (by omega)).trans (h.2.1 q h1 h2 h3 h4 h5), fun q h1 h2 j hj => (congrFun (va_up_n (by omega)) j).trans (h.2.2.1 q h1 h2 j hj), fun j hj => ?_, fun q h1 h2 => ⟨fun j hj hD => (congrFun (va_up_n (by omega)) j).trans ((h.2.2.2.2 q h1 h2).1 j hj hD), by rw [va_up_n (by omega)]; exact (h.2.2.2.2 q h1 h2).2⟩⟩
  rw [va_up_s]; simp only [upd]; rw [if_neg (by omega)]; exact h.2.2.2.1 j hj
theorem mct.other {c w : Nat} {D : Nat → Prop} {C : Nat → Int32} {S S2 : Nat → Int32} {I I2 : mo_I} (h : mct c w D C S I S2 I2) (k q0 : Nat) (v : Int32) (hD : D q0) (hc : q0 ≠ c) (h35 : 35 ≤ k) (h40 : k ≤ 40) : mct c w D C S I S2 (va_up I2 k (upd (I2 k) q0 v)) := by
  refine ⟨h.1, fun q h1 h2 h3 h4 h5 => (va_up_n (by omega)).trans (h.2.1 q h1 h2 h3 h4 h5), fun q h1 h2 j hj => (congrFun (va_up_n (by omega)) j).trans (h.2.2.1 q h1 h2 j hj), fun j hj => (congrFun (va_up_n (by omega)) j).trans (h.2.2.2.1 j hj), fun q h1 h2 => ?_⟩
  have hq := h.2.2.2.2 q h1 h2
  by_cases e : q = k
  · subst e
    refine ⟨fun j hj hD2 => ?_, ?_⟩
    · rw [va_up_s]; simp only [upd]; rw [if_neg (fun z => hD2 (by rw [z]; exact hD))]; exact hq.1 j hj hD2
    · rw [va_up_s]; simp only [upd]; rw [if_neg (fun z => hc z.symm)]; exact hq.2
  · exact ⟨fun j hj hD => (congrFun (va_up_n e) j).trans (hq.1 j hj hD), by rw [va_up_n e]; exact hq.2⟩
theorem mct.mono {c w : Nat} {D D2 : Nat → Prop} {C : Nat → Int32} {S S2 : Nat → Int32} {I I2 : mo_I} (h : mct c w D C S I S2 I2) (hD : ∀ j, D j → D2 j) : mct c w D2 C S I S2 I2 :=
  ⟨h.1, h.2.1, h.2.2.1, h.2.2.2.1, fun k h1 h2 => ⟨fun j hj hn => (h.2.2.2.2 k h1 h2).1 j hj (fun z => hn (hD j z)), (h.2.2.2.2 k h1 h2).2⟩⟩
/-- the turn ends with an answer x of the part, w parts wait -/
def oc_t (w : Nat) (x g : Int32) (S S2 : Nat → Int32) : Prop := S2 45 = nI w ∧ S2 46 = x ∧ S2 47 = g ∧ S2 48 = S 48 ∧ S2 49 = S 49
/-- it asks the part p -/
def oc_a (w p : Nat) (S S2 : Nat → Int32) (I2 : mo_I) : Prop := S2 45 = nI (w + 2) ∧ S2 46 = 0 ∧ S2 48 = S 48 ∧ S2 49 = S 49 ∧ I2 44 (w + 1) = nI p
/-- it lets p begin with v and e -/
def oc_e (w p : Nat) (v e : Int32) (φ : Nat) (S S2 : Nat → Int32) (I2 : mo_I) : Prop := (φ = 0 ∧ S2 49 = 2 ∧ S2 48 = S 48) ∨ (0 < φ ∧ S2 45 = nI (w + 2) ∧ S2 46 = 0 ∧ S2 48 = nI (φ - 1) ∧ S2 49 = S 49 ∧ I2 44 (w + 1) = nI p ∧ I2 35 p = 0 ∧ I2 36 p = v ∧ I2 37 p = e)
def up4 (I : mo_I) (q : Nat) (v x : Int32) (wt : Nat) : mo_I := va_up (va_up (va_up (va_up I 35 (upd (I 35) q 0)) 36 (upd ((va_up I 35 (upd (I 35) q 0)) 36) q v)) 37 (upd ((va_up (va_up I 35 (upd (I 35) q 0)) 36 (upd ((va_up I 35 (upd (I 35) q 0)) 36) q v)) 37) q x)) 44 (upd ((va_up (va_up (va_up I 35 (upd (I 35) q 0)) 36 (upd ((va_up I 35 (upd (I 35) q 0)) 36) q v)) 37 (upd ((va_up (va_up I 35 (upd (I 35) q 0)) 36 (upd ((va_up I 35 (upd (I 35) q 0)) 36) q v)) 37) q x)) 44) wt (nI q))
theorem mct.enter {c w : Nat} {C : Nat → Int32} {S S2 : Nat → Int32} {I I2 : mo_I} (h : mct c w (fun _ => False) C S I S2 I2) {q φ : Nat} {v x : Int32} (hq : q ≠ c) : mct c w (fun j => j = q) C S I (va_up (va_up (va_up S2 48 (nI (φ - 1))) 45 (nI (w + 2))) 46 0) (up4 I2 q v x (w + 1)) := by
  have h1 : mct c w (fun j => j = q) C S I S2 I2 := h.mono (fun _ z => z.elim)
  have h2 := (((h1.other 35 q 0 rfl hq (by decide) (by decide)).other 36 q v rfl hq (by decide) (by decide)).other 37 q x rfl hq (by decide) (by decide)).path (j0 := w + 1) (v := nI q) (by omega)
  exact ((h2.s (k := 48) (by omega)).s (k := 45) (by omega)).s (k := 46) (by omega)
theorem oc_e1 {w p φ : Nat} {v e : Int32} {S S2 : Nat → Int32} {I2 : mo_I} (h : 0 < φ) (h49 : S2 49 = S 49) : oc_e w p v e φ S (va_up (va_up (va_up S2 48 (nI (φ - 1))) 45 (nI (w + 2))) 46 0) (up4 I2 p v e (w + 1)) := by
  refine Or.inr ⟨h, by rw [va_up_n (by decide), va_up_s], by rw [va_up_s], by rw [va_up_n (by decide), va_up_n (by decide), va_up_s], by rw [va_up_n (by decide), va_up_n (by decide), va_up_n (by decide)]; exact h49, ?_, ?_, ?_, ?_⟩ <;> unfold up4
  · rw [va_up_s]; simp [upd]
  · rw [va_up_n (by decide), va_up_n (by decide), va_up_n (by decide), va_up_s]; simp [upd]
  · rw [va_up_n (by decide), va_up_n (by decide), va_up_s]; simp [upd]
  · rw [va_up_n (by decide), va_up_s]; simp [upd]
theorem oc_e0 {w p φ : Nat} {v e : Int32} {S S2 : Nat → Int32} {I2 : mo_I} (h : φ = 0) (h48 : S2 48 = S 48) : oc_e w p v e φ S (va_up S2 49 2) I2 := Or.inl ⟨h, va_up_s, by rw [va_up_n (by decide)]; exact h48⟩
theorem oc_a1 {w p : Nat} {S S2 : Nat → Int32} {I2 : mo_I} (h48 : S2 48 = S 48) (h49 : S2 49 = S 49) : oc_a w p S (va_up (va_up S2 45 (nI (w + 2))) 46 0) (va_up I2 44 (upd (I2 44) (w + 1) (nI p))) := by
  refine ⟨by rw [va_up_n (by decide), va_up_s], va_up_s, by rw [va_up_n (by decide), va_up_n (by decide)]; exact h48, by rw [va_up_n (by decide), va_up_n (by decide)]; exact h49, ?_⟩
  rw [va_up_s]; simp [upd]
theorem mct.ask {c w : Nat} {D : Nat → Prop} {C : Nat → Int32} {S S2 : Nat → Int32} {I I2 : mo_I} (h : mct c w D C S I S2 I2) {p : Int32} : mct c w D C S I (va_up (va_up S2 45 (nI (w + 2))) 46 0) (va_up I2 44 (upd (I2 44) (w + 1) p)) := ((h.path (by omega)).s (k := 45) (by omega)).s (k := 46) (by omega)
theorem mct.tell {c w : Nat} {D : Nat → Prop} {C : Nat → Int32} {S S2 : Nat → Int32} {I I2 : mo_I} (h : mct c w D C S I S2 I2) {x : Int32} : mct c w D C S I (va_up (va_up S2 45 (nI w)) 46 x) I2 := (h.s (k := 45) (by omega)).s (k := 46) (by omega)
theorem mct.give {c w : Nat} {D : Nat → Prop} {C : Nat → Int32} {S S2 : Nat → Int32} {I I2 : mo_I} (h : mct c w D C S I S2 I2) {u x : Int32} : mct c w D C S I (va_up (va_up (va_up S2 47 u) 45 (nI w)) 46 x) I2 := ((h.s (k := 47) (by omega)).s (k := 45) (by omega)).s (k := 46) (by omega)
theorem oc_t1 {w : Nat} {x g : Int32} {S S2 : Nat → Int32} (h47 : S2 47 = g) (h48 : S2 48 = S 48) (h49 : S2 49 = S 49) : oc_t w x g S (va_up (va_up S2 45 (nI w)) 46 x) := ⟨by rw [va_up_n (by decide), va_up_s], va_up_s, by rw [va_up_n (by decide), va_up_n (by decide)]; exact h47, by rw [va_up_n (by decide), va_up_n (by decide)]; exact h48, by rw [va_up_n (by decide), va_up_n (by decide)]; exact h49⟩
theorem oc_t2 {w : Nat} {x g : Int32} {S S2 : Nat → Int32} (h48 : S2 48 = S 48) (h49 : S2 49 = S 49) : oc_t w x g S (va_up (va_up (va_up S2 47 g) 45 (nI w)) 46 x) := ⟨by rw [va_up_n (by decide), va_up_s], va_up_s, by rw [va_up_n (by decide), va_up_n (by decide), va_up_s], by rw [va_up_n (by decide), va_up_n (by decide), va_up_n (by decide)]; exact h48, by rw [va_up_n (by decide), va_up_n (by decide), va_up_n (by decide)]; exact h49⟩
theorem mw_true {I : mo_I} {J : mo_J} {b0 nv pb np v : Nat} {X : vt} (h : mw I J b0 nv pb np v X) (hc : mc I J b0 nv pb np) : (!decide (v ≤ 1) && !decide (I 1 v ≤ 1)) = vt_tr X := by
  have h1 := (mv_o.mp h.1).2.1
  have hk := (vo_o.mp h.2).1
  have hb : decide (I 1 v ≤ 1) = decide (vt_k X ≤ 1) := by
    rw [h1]
    rcases (show vt_k X = 0 ∨ vt_k X = 1 ∨ vt_k X = 2 ∨ vt_k X = 3 ∨ vt_k X = 4 ∨ vt_k X = 5 ∨ vt_k X = 6 by omega) with e | e | e | e | e | e | e <;> rw [e] <;> decide
  rw [hb]
  have hv : v ≤ 1 → vt_k X ≤ 1 := fun hv => by
    rcases (show v = 0 ∨ v = 1 by omega) with rfl | rfl
    · have h0 := (mv_o.mp hc.1.1).2.1
      rw [h1] at h0
      have h2 := congrArg Int32.toInt h0
      rw [nI_toInt (by omega), nI_toInt (by show 0 < 2 ^ 31; omega)] at h2
      have h3 : (vt_k X : Int) = 0 := h2
      omega
    · have h0 := (mv_o.mp hc.2.1.1).2.1
      rw [h1] at h0
      have h2 := congrArg Int32.toInt h0
      rw [nI_toInt (by omega), nI_toInt (by show 1 < 2 ^ 31; omega)] at h2
      have h3 : (vt_k X : Int) = 1 := h2
      omega
  unfold vt_tr
  by_cases e : vt_k X ≤ 1
  · rw [decide_eq_true e]; simp; omega
  · rw [decide_eq_false e, decide_eq_false (fun z => e (hv z))]; simp; omega
