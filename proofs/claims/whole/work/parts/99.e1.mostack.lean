/-! The stack with which the model finds the parts. RQ m pl I: at the loop's head, m wait, the place is pl. -/
/-- the parts of the byte k are pushed for the place pl, at depth dp -/
def wh_p (I : mo_I) (o m pl kp dp : Nat) (I2 : mo_I) : Prop := (∀ j, j < 180 → I2 31 j = (if j = o then nI pl else I 31 j)) ∧ (∀ i, i < kp → I2 32 (m + (kp - 1 - i)) = nI (16 * (3 * pl + i) + dp + 1)) ∧ (∀ j, j < m → I2 32 j = I 32 j) ∧ ∀ k, k ≠ 31 → k ≠ 32 → I2 k = I k
def wh_n (cb : Nat → Nat) (pl : Nat) : Nat := pl + (if qy_let (cb pl) || qy_num (cb pl) then 2 else 1)
/-- predicates of states that go through a turn of the loop; RF: the answer is no -/
def wh_cl (cb : Nat → Nat) (N : Nat) (RQ : Nat → Nat → mo_I → Prop) (RF : mo_I → Prop) : Prop := (∀ (I : mo_I) (m pl o dp : Nat), m < 77 → pl ≤ 60 → o < 180 → dp < 16 → I 32 m = nI (16 * o + dp) → ¬ (dp ≤ 12 ∧ pl < N ∧ cb pl < 27 ∧ qy_has cb N pl = true) → RF I → RQ (m + 1) pl I) ∧ ∀ (I : mo_I) (m pl o dp : Nat), m < 77 → pl ≤ 60 → o < 180 → dp ≤ 12 → I 32 m = nI (16 * o + dp) → pl < N → cb pl < 27 → qy_has cb N pl = true → (∀ I2, wh_p I o m pl (qy_parts (cb pl)) dp I2 → RQ (m + qy_parts (cb pl)) (wh_n cb pl) I2) → RQ (m + 1) pl I
theorem wh_loop {cb : Nat → Nat} {N d i dp : Nat} {RQ : Nat → Nat → mo_I → Prop} {RF : mo_I → Prop} (hN : N ≤ 60) (hi : i < N) (ih : ∀ (I : mo_I) (m pl o : Nat) (bg : Nat → Nat), m ≤ 2 * dp → pl ≤ 60 → o < 180 → I 32 m = nI (16 * o + dp) → (∀ j, j < 180 → I 31 j = nI (bg j)) → (∀ b2, qy_run cb N d pl (va_up bg o pl) = (none, b2) → ∀ I2, (∀ k, k ≠ 31 → k ≠ 32 → I2 k = I k) → RF I2) → (∀ q b2, qy_run cb N d pl (va_up bg o pl) = (some q, b2) → ∀ I2, (∀ j, j < 180 → I2 31 j = nI (b2 j)) → (∀ j, j < m → I2 32 j = I 32 j) → (∀ k, k ≠ 31 → k ≠ 32 → I2 k = I k) → RQ m q I2) → RQ (m + 1) pl I) : ∀ (c k : Nat) (I : mo_I) (m pl : Nat) (bg : Nat → Nat), k + c ≤ 3 → m + c ≤ 2 * dp + 1 → pl ≤ 60 → (∀ x, x < c → I 32 (m + (c - 1 - x)) = nI (16 * (3 * i + (k + x)) + dp)) → (∀ j, j < 180 → I 31 j = nI (bg j)) → (∀ b2, qy_loop (qy_run cb N d) (i * 3) c k pl bg = (none, b2) → ∀ I2, (∀ k, k ≠ 31 → k ≠ 32 → I2 k = I k) → RF I2) → (∀ q b2, qy_loop (qy_run cb N d) (i * 3) c k pl bg = (some q, b2) → ∀ I2, (∀ j, j < 180 → I2 31 j = nI (b2 j)) → (∀ j, j < m → I2 32 j = I 32 j) → (∀ k, k ≠ 31 → k ≠ 32 → I2 k = I k) → RQ m q I2) → RQ (m + c) pl I := by
  intro c
  induction c with
  | zero => intro k I m pl bg hk hm hpl h32 h31 hf hs; exact hs pl bg rfl I h31 (fun _ _ => rfl) (fun _ _ _ => rfl)
  | succ c im =>
    intro k I m pl bg hk hm hpl h32 h31 hf hs
    have h0 := h32 0 (by omega)
    rw [show m + (c + 1 - 1 - 0) = m + c by omega, show 3 * i + (k + 0) = i * 3 + k by omega] at h0
    refine ih I (m + c) pl (i * 3 + k) bg (by omega) hpl (by omega) h0 h31 (fun b2 hr I2 hI2 => hf b2 ?_ I2 hI2) (fun q b2 hr I2 g1 g2 g3 => ?_)
    · unfold qy_loop; rw [hr]
    · have hle := qy_run_le _ _ _ _ _ hr
      refine im (k + 1) I2 m q b2 (by omega) (by omega) (by omega) (fun x hx => ?_) g1 (fun b3 hr3 I3 hI3 => hf b3 ?_ I3 (fun t t1 t2 => (hI3 t t1 t2).trans (g3 t t1 t2))) (fun q3 b3 hr3 I3 k1 k2 k3 => hs q3 b3 ?_ I3 k1 (fun j hj => (k2 j hj).trans (g2 j (by omega))) (fun t t1 t2 => (k3 t t1 t2).trans (g3 t t1 t2)))
      · rw [g2 _ (by omega)]
        have hx2 := h32 (x + 1) (by omega)
        rw [show m + (c + 1 - 1 - (x + 1)) = m + (c - 1 - x) by omega, show k + (x + 1) = k + 1 + x by omega] at hx2
        exact hx2
      · unfold qy_loop; rw [hr]; exact hr3
      · unfold qy_loop; rw [hr]; exact hr3
theorem wh_run {cb : Nat → Nat} {N : Nat} {RQ : Nat → Nat → mo_I → Prop} {RF : mo_I → Prop} (hN : N ≤ 60) (hcl : wh_cl cb N RQ RF) : ∀ (d : Nat), d ≤ 13 → ∀ (I : mo_I) (m pl o : Nat) (bg : Nat → Nat), m ≤ 2 * (13 - d) → pl ≤ 60 → o < 180 → I 32 m = nI (16 * o + (13 - d)) → (∀ j, j < 180 → I 31 j = nI (bg j)) → (∀ b2, qy_run cb N d pl (va_up bg o pl) = (none, b2) → ∀ I2, (∀ k, k ≠ 31 → k ≠ 32 → I2 k = I k) → RF I2) → (∀ q b2, qy_run cb N d pl (va_up bg o pl) = (some q, b2) → ∀ I2, (∀ j, j < 180 → I2 31 j = nI (b2 j)) → (∀ j, j < m → I2 32 j = I 32 j) → (∀ k, k ≠ 31 → k ≠ 32 → I2 k = I k) → RQ m q I2) → RQ (m + 1) pl I := by
  intro d
  induction d with
  | zero =>
    intro hd I m pl o bg hm hpl ho h32 h31 hf hs
    exact hcl.1 I m pl o (13 - 0) (by omega) hpl ho (by omega) h32 (fun z => absurd z.1 (by omega)) (hf _ rfl I (fun _ _ _ => rfl))
  | succ d ih =>
    intro hd I m pl o bg hm hpl ho h32 h31 hf hs
    by_cases hc : pl < N ∧ cb pl < 27 ∧ qy_has cb N pl = true
    · refine hcl.2 I m pl o (13 - (d + 1)) (by omega) hpl ho (by omega) h32 hc.1 hc.2.1 hc.2.2 (fun I2 hI2 => ?_)
      obtain ⟨w1, w2, w3, w4⟩ := hI2
      have hp := qy_parts_le (cb pl) hc.2.1
      have hle := w_has_le hN hc.1 hc.2.2
      have un : ∀ (bg : Nat → Nat), qy_run cb N (d + 1) pl bg = qy_loop (qy_run cb N d) (pl * 3) (qy_parts (cb pl)) 0 (wh_n cb pl) bg := by
        intro bg
        show (if pl < N ∧ cb pl < 27 ∧ qy_has cb N pl = true then _ else _) = _
        rw [if_pos hc]; rfl
      refine wh_loop (d := d) (i := pl) (dp := 13 - d) (RF := RF) hN hc.1 (fun I m pl o bg => ih (by omega) I m pl o bg) (qy_parts (cb pl)) 0 I2 m (wh_n cb pl) (va_up bg o pl) (by omega) (by omega) hle (fun x hx => ?_) (fun j hj => ?_) (fun b2 hr I3 h3 => hf b2 (by rw [un]; exact hr) I3 (fun t t1 t2 => (h3 t t1 t2).trans (w4 t t1 t2))) (fun q b2 hr I3 k1 k2 k3 => hs q b2 (by rw [un]; exact hr) I3 k1 (fun j hj => (k2 j hj).trans (w3 j hj)) (fun t t1 t2 => (k3 t t1 t2).trans (w4 t t1 t2)))
      · rw [w2 x hx, Nat.zero_add, show 16 * (3 * pl + x) + (13 - (d + 1)) + 1 = 16 * (3 * pl + x) + (13 - d) by omega]
      · rw [w1 j hj]
        by_cases e : j = o
        · rw [if_pos e, e, va_up_s]
        · rw [if_neg e, va_up_n e]; exact h31 j hj
    · refine hcl.1 I m pl o (13 - (d + 1)) (by omega) hpl ho (by omega) h32 (fun z => hc z.2) (hf (va_up bg o pl) ?_ I (fun _ _ _ => rfl))
      show (if pl < N ∧ cb pl < 27 ∧ qy_has cb N pl = true then _ else _) = _
      rw [if_neg hc]
