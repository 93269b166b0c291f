/-! The model beside the machine, without a heap. -/
/-- a region of the model's values stays -/
def mrg (I : mo_I) (J : mo_J) (I1 : mo_I) (J1 : mo_J) (b nv pb np : Nat) : Prop := (∀ k v, (k = 1 ∨ k = 3 ∨ k = 4 ∨ k = 5 ∨ k = 9) → (v < 29 ∨ (b ≤ v ∧ v < nv)) → v < 760 → I1 k v = I k v) ∧ (∀ k v, (k = 2 ∨ k = 6 ∨ k = 7 ∨ k = 8) → (v < 29 ∨ (b ≤ v ∧ v < nv)) → v < 760 → J1 k v = J k v) ∧ ∀ p, pb ≤ p → p < np → I1 10 p = I 10 p
section LI
variable {I I1 I2 : mo_I} {J J1 J2 : mo_J} {S S2 : Nat → Int32} {b nv pb np : Nat}
theorem mrg.mono {nv1 np1 : Nat} (h : mrg I J I1 J1 b nv pb np) (h1 : nv1 ≤ nv) (h2 : np1 ≤ np) : mrg I J I1 J1 b nv1 pb np1 := ⟨fun k v hk hv h7 => h.1 k v hk (by omega) h7, fun k v hk hv h7 => h.2.1 k v hk (by omega) h7, fun p h3 h4 => h.2.2 p h3 (by omega)⟩
theorem mrg.of (hI : ∀ k, (k = 1 ∨ k = 3 ∨ k = 4 ∨ k = 5 ∨ k = 9 ∨ k = 10) → I1 k = I k) : mrg I J I1 J b nv pb np := ⟨fun k v hk _ _ => by rw [hI k (by omega)], fun _ _ _ _ _ => rfl, fun p _ _ => by rw [hI 10 (by omega)]⟩
theorem ml_L.reg {v : Nat} {L : List Int32} (h : ml_L J v L) (hm : mrg I J I1 J1 b nv pb np) (hv : ma_v b nv v) : ml_L J1 v L := ⟨h.1, fun k hk => by rw [hm.2.1 6 v (by omega) hv.1 hv.2, hm.2.1 7 v (by omega) hv.1 hv.2, hm.2.1 8 v (by omega) hv.1 hv.2]; exact h.2 k hk⟩
theorem mv_S.reg {v : Nat} {L : List Int32} (h : mv_S I J b nv v L) (hm : mrg I J I1 J1 b nv pb np) : mv_S I1 J1 b nv v L := by
  obtain ⟨h0, h1, h2, h3, h4, h5, h6⟩ := h
  exact ⟨h0, (hm.1 1 v (by omega) h0.1 h0.2).trans h1, (hm.2.1 2 v (by omega) h0.1 h0.2).trans h2, (hm.1 3 v (by omega) h0.1 h0.2).trans h3, h4.reg hm h0, (hm.1 4 v (by omega) h0.1 h0.2).trans h5, (hm.1 5 v (by omega) h0.1 h0.2).trans h6⟩
theorem mv.reg (hm : mrg I J I1 J1 b nv pb np) : ∀ {n v : Nat} {X : vt}, mv I J b nv pb np n v X → mv I1 J1 b nv pb np n v X := by
  intro n
  induction n with
  | zero => intro v X h; exact h
  | succ n ih =>
    intro v X h
    obtain ⟨h0, h1, h2, h3, h4, h5, h6, h7⟩ := h
    refine ⟨h0, (hm.1 1 v (by omega) h0.1 h0.2).trans h1, (hm.2.1 2 v (by omega) h0.1 h0.2).trans h2, (hm.1 3 v (by omega) h0.1 h0.2).trans h3, h4.reg hm h0, (hm.1 4 v (by omega) h0.1 h0.2).trans h5, (hm.1 5 v (by omega) h0.1 h0.2).trans h6, fun hk => ?_⟩
    obtain ⟨fv, B, K, g1, g2, g3, g4⟩ := h7 hk
    exact ⟨fv, B, K, (hm.1 9 v (by omega) h0.1 h0.2).trans g1, g2, fun j hj => ⟨(hm.2.2 _ (by omega) (by omega)).trans (g3 j hj).1, ih (g3 j hj).2⟩, fun j hj => ⟨(hm.2.2 _ (by omega) (by omega)).trans (g4 j hj).1, (g4 j hj).2.reg hm⟩⟩
theorem mw.reg {v : Nat} {X : vt} (h : mw I J b nv pb np v X) (hm : mrg I J I1 J1 b nv pb np) : mw I1 J1 b nv pb np v X := ⟨mv.reg hm h.1, h.2⟩
theorem mc.reg (h : mc I J b nv pb np) (hm : mrg I J I1 J1 b nv pb np) : mc I1 J1 b nv pb np := ⟨h.1.reg hm, h.2.1.reg hm, h.2.2.1.reg hm, fun j hj => (h.2.2.2 j hj).reg hm⟩
/-- the query to come, the query that runs, the latest run, the document -/
def li_b (N1 : Nat) (cb1 : Nat → Nat) (S : Nat → Int32) (I : mo_I) : Prop := S 30 = nI N1 ∧ ∀ j, j < N1 → I 29 j = nI (cb1 j)
def li_q (N : Nat) (cb bg : Nat → Nat) (I : mo_I) : Prop := ∃ cbm bgm : Nat → Nat, (∀ j, j < 60 → I 33 j = nI (cbm j)) ∧ (∀ j, j < 180 → I 34 j = nI (bgm j)) ∧ qn cbm bgm N 13 0 N ∧ (∀ j, j < N → cbm j = cb j) ∧ qa cb bg bgm 13 0
def li_o (φ : Nat) (en : Int32) (xs : List vt) (S : Nat → Int32) (I : mo_I) (J : mo_J) : Prop := (S 49 = en ∧ S 48 = nI φ ∧ S 51 = nI xs.length ∧ xs.length ≤ 16) ∧ ∃ nv2 np2, nv2 ≤ 759 ∧ np2 ≤ 8768 ∧ mout I J 260 nv2 300 np2 xs
def li_d (X : vt) (S : Nat → Int32) (I : mo_I) (J : mo_J) : Prop := ∃ nvd npd u, nvd ≤ 260 ∧ npd ≤ 300 ∧ S 17 = nI u ∧ mw I J 29 nvd 0 npd u X ∧ mc I J 29 nvd 0 npd
def li_m (tx : Nat → Nat) (n : Nat) (bd : Int32) (X : vt) (N : Nat) (cb bg : Nat → Nat) (N1 : Nat) (cb1 : Nat → Nat) (φ : Nat) (en : Int32) (xs : List vt) (S : Nat → Int32) (I : mo_I) (J : mo_J) : Prop := rT tx n S I ∧ S 18 = bd ∧ li_b N1 cb1 S I ∧ li_q N cb bg I ∧ li_o φ en xs S I J ∧ li_d X S I J
theorem li_b.keep {N1 : Nat} {cb1 : Nat → Nat} (h : li_b N1 cb1 S I) (h30 : S2 30 = S 30) (h29 : I2 29 = I 29) : li_b N1 cb1 S2 I2 := ⟨h30.trans h.1, fun j hj => by rw [h29]; exact h.2 j hj⟩
theorem li_q.keep {N : Nat} {cb bg : Nat → Nat} (h : li_q N cb bg I) (h33 : I2 33 = I 33) (h34 : I2 34 = I 34) : li_q N cb bg I2 := by
  obtain ⟨cbm, bgm, h1, h2, h3⟩ := h
  exact ⟨cbm, bgm, by rw [h33]; exact h1, by rw [h34]; exact h2, h3⟩
theorem li_o.keep {φ : Nat} {en : Int32} {xs : List vt} (h : li_o φ en xs S I J) (h49 : S2 49 = S 49) (h48 : S2 48 = S 48) (h51 : S2 51 = S 51) (h50 : I2 50 = I 50) (hm : mrg I J I2 J2 260 760 300 8800) : li_o φ en xs S2 I2 J2 := by
  obtain ⟨⟨h1, h2, h3, h4⟩, nv2, np2, h5, h6, h7⟩ := h
  refine ⟨⟨h49.trans h1, h48.trans h2, h51.trans h3, h4⟩, nv2, np2, h5, h6, fun j hj => ?_⟩
  obtain ⟨o, h8, h9⟩ := h7 j hj
  exact ⟨o, by rw [h50]; exact h8, h9.reg (hm.mono (by omega) (by omega))⟩
theorem li_d.keep {X : vt} (h : li_d X S I J) (h17 : S2 17 = S 17) (hm : mrg I J I2 J2 29 260 0 300) : li_d X S2 I2 J2 := by
  obtain ⟨nvd, npd, u, h1, h2, h3, h4, h5⟩ := h
  exact ⟨nvd, npd, u, h1, h2, h17.trans h3, h4.reg (hm.mono h1 h2), h5.reg (hm.mono h1 h2)⟩
variable {tx : Nat → Nat} {n : Nat} {bd : Int32} {X : vt} {N : Nat} {cb bg : Nat → Nat} {N1 : Nat} {cb1 : Nat → Nat} {φ : Nat} {en : Int32} {xs : List vt}
/-- nothing of it is written -/
theorem li_m.keep (h : li_m tx n bd X N cb bg N1 cb1 φ en xs S I J) (hS : ∀ k, (k = 17 ∨ k = 18 ∨ k = 20 ∨ k = 30 ∨ k = 48 ∨ k = 49 ∨ k = 51) → S2 k = S k) (hI : ∀ k, k < 52 → I2 k = I k) : li_m tx n bd X N cb bg N1 cb1 φ en xs S2 I2 J := by
  obtain ⟨h1, h2, h3, h4, h5, h6⟩ := h
  exact ⟨h1.keep (hS 20 (by omega)) (hI 19 (by omega)), (hS 18 (by omega)).trans h2, h3.keep (hS 30 (by omega)) (hI 29 (by omega)), h4.keep (hI 33 (by omega)) (hI 34 (by omega)), h5.keep (hS 49 (by omega)) (hS 48 (by omega)) (hS 51 (by omega)) (hI 50 (by omega)) (mrg.of (fun k hk => hI k (by omega))), h6.keep (hS 17 (by omega)) (mrg.of (fun k hk => hI k (by omega)))⟩
theorem li_m.s0 (h : li_m tx n bd X N cb bg N1 cb1 φ en xs S I J) {v : Int32} : li_m tx n bd X N cb bg N1 cb1 φ en xs (va_up S 0 v) I J := h.keep (fun k hk => va_up_n (by omega)) (fun _ _ => rfl)
theorem li_text {x : Int64} {mm : Nat} (h : li_m tx n bd X N cb bg N1 cb1 φ en xs S I J) (hch : ∀ k, k < mm → by_ok x k) (h120 : n + mm ≤ 120) (hS : ∀ k, k ≠ 20 → S2 k = va_up S 0 0 k) (h20 : S2 20 = nI (n + mm)) (hI : ∀ k, k ≠ 19 → I2 k = I k) (h19 : ∀ j, I2 19 j = if n ≤ j ∧ j < n + mm then nI (by_n x (mm - 1 - (j - n))) else I 19 j) : li_m (qf_tx tx n x mm) (n + mm) bd X N cb bg N1 cb1 φ en xs S2 I2 J := by
  obtain ⟨h1, h2, h3, h4, h5, h6⟩ := h
  have s : ∀ k, k ≠ 0 → k ≠ 20 → S2 k = S k := fun k h0 h20 => (hS k h20).trans (va_up_n h0)
  refine ⟨⟨h20, h120, fun j hj => ?_⟩, (s 18 (by omega) (by omega)).trans h2, h3.keep (s 30 (by omega) (by omega)) (hI 29 (by omega)), h4.keep (hI 33 (by omega)) (hI 34 (by omega)), h5.keep (s 49 (by omega) (by omega)) (s 48 (by omega) (by omega)) (s 51 (by omega) (by omega)) (hI 50 (by omega)) (mrg.of (fun k hk => hI k (by omega))), h6.keep (s 17 (by omega) (by omega)) (mrg.of (fun k hk => hI k (by omega)))⟩
  rw [h19 j]
  unfold qf_tx
  by_cases hj2 : n ≤ j ∧ j < n + mm
  · rw [if_pos hj2, if_pos hj2]
    exact ⟨rfl, hch _ (by omega)⟩
  · rw [if_neg hj2, if_neg hj2]
    exact h1.2.2 j (by omega)
theorem li_bytes {x : Int64} {mm : Nat} {cb2 : Nat → Nat} (h : li_m tx n bd X N cb bg N1 cb1 φ en xs S I J) (hS : ∀ k, k ≠ 30 → S2 k = va_up S 0 0 k) (h30 : S2 30 = nI (N1 + mm)) (hI : ∀ k, k ≠ 29 → I2 k = I k) (h29 : ∀ j, I2 29 j = if N1 ≤ j ∧ j < N1 + mm then nI (by_n x (mm - 1 - (j - N1))) else I 29 j) (hcb : ∀ j, cb2 j = if N1 ≤ j ∧ j < N1 + mm then by_n x (mm - 1 - (j - N1)) else cb1 j) : li_m tx n bd X N cb bg (N1 + mm) cb2 φ en xs S2 I2 J := by
  obtain ⟨h1, h2, h3, h4, h5, h6⟩ := h
  have s : ∀ k, k ≠ 0 → k ≠ 30 → S2 k = S k := fun k h0 h20 => (hS k h20).trans (va_up_n h0)
  refine ⟨h1.keep (s 20 (by omega) (by omega)) (hI 19 (by omega)), (s 18 (by omega) (by omega)).trans h2, ⟨h30, fun j hj => ?_⟩, h4.keep (hI 33 (by omega)) (hI 34 (by omega)), h5.keep (s 49 (by omega) (by omega)) (s 48 (by omega) (by omega)) (s 51 (by omega) (by omega)) (hI 50 (by omega)) (mrg.of (fun k hk => hI k (by omega))), h6.keep (s 17 (by omega) (by omega)) (mrg.of (fun k hk => hI k (by omega)))⟩
  rw [h29 j, hcb j]
  by_cases hj2 : N1 ≤ j ∧ j < N1 + mm
  · rw [if_pos hj2, if_pos hj2]
  · rw [if_neg hj2, if_neg hj2]
    exact h3.2 j (by omega)
theorem qn.cbc {cb cb2 bg : Nat → Nat} {N : Nat} (h : ∀ j, j < N → cb2 j = cb j) : ∀ {w c e : Nat}, qn cb bg N w c e → qn cb2 bg N w c e := by
  intro w
  induction w with
  | zero => intro c e hq; exact hq
  | succ w ih =>
    intro c e hq
    obtain ⟨⟨h1, h2, h3, h4, h5⟩, en, h6, h7⟩ := hq
    have hc : cb2 c = cb c := h c (by omega)
    refine ⟨⟨h1, h2, by rw [hc]; exact h3, fun z => ?_, fun z => ?_⟩, en, fun i hi => ?_, fun i j hij hj => ?_⟩
    · rw [hc] at z
      have h8 := h4 z
      rw [h (c + 1) h8.1]
      exact h8
    · rw [hc] at z
      have h8 := h5 z
      rw [h (c + 1) h8.1]
      exact h8
    · rw [hc] at hi
      exact ⟨(h6 i hi).1, (h6 i hi).2.1, ih (h6 i hi).2.2⟩
    · rw [hc] at hj
      exact h7 i j hij hj
theorem li_query0 (h : li_m tx n bd X N cb bg N1 cb1 φ en xs S I J) {v : Int32} (hI : ∀ k, k ≠ 31 → k ≠ 32 → I2 k = I k) : li_m tx n bd X N cb bg 0 cb1 φ en xs (va_up (va_up S 30 0) 0 v) I2 J := by
  obtain ⟨h1, h2, h3, h4, h5, h6⟩ := h
  have s : ∀ k, k ≠ 0 → k ≠ 30 → va_up (va_up S 30 0) 0 v k = S k := fun k h0 h3 => by rw [va_up_n h0, va_up_n h3]
  exact ⟨h1.keep (s 20 (by omega) (by omega)) (hI 19 (by omega) (by omega)), (s 18 (by omega) (by omega)).trans h2, ⟨by rw [va_up_n (by omega), va_up_s]; rfl, fun j hj => absurd hj (Nat.not_lt_zero j)⟩, h4.keep (hI 33 (by omega) (by omega)) (hI 34 (by omega) (by omega)), h5.keep (s 49 (by omega) (by omega)) (s 48 (by omega) (by omega)) (s 51 (by omega) (by omega)) (hI 50 (by omega) (by omega)) (mrg.of (fun k hk => hI k (by omega) (by omega))), h6.keep (s 17 (by omega) (by omega)) (mrg.of (fun k hk => hI k (by omega) (by omega)))⟩
theorem li_query1 {bg1 bgf : Nat → Nat} (h : li_m tx n bd X N cb bg N1 cb1 φ en xs S I J) (hcb256 : ∀ j, cb1 j < 256) (hwf : (qy_run cb1 N1 13 0 bg1).1 = some N1) (h33 : ∀ j, I2 33 j = if j < N1 then nI (cb1 j) else I 33 j) (h34 : ∀ j, I2 34 j = if j < 3 * N1 then nI ((qy_run cb1 N1 13 0 (va_up bgf 0 0)).2 j) else I 34 j) (hI : ∀ k, k ≠ 31 → k ≠ 32 → k ≠ 33 → k ≠ 34 → I2 k = I k) : li_m tx n bd X N1 cb1 (qy_run cb1 N1 13 0 bg1).2 0 cb φ en xs (va_up (va_up S 30 0) 0 0) I2 J := by
  obtain ⟨h1, h2, h3, ⟨cbm, bgm, k1, k2, -, -, -⟩, h5, h6⟩ := h
  have s : ∀ k, k ≠ 0 → k ≠ 30 → va_up (va_up S 30 0) 0 0 k = S k := fun k h0 h3 => by rw [va_up_n h0, va_up_n h3]
  have two := qy_run_two hcb256 (cb2 := cb1) (n := N1) (fun j _ => rfl) 13 0 bg1 (va_up bgf 0 0)
  have hwf2 : (qy_run cb1 N1 13 0 (va_up bgf 0 0)).1 = some N1 := two.1.trans hwf
  have q1 : qn cb1 (qy_run cb1 N1 13 0 bg1).2 N1 13 0 N1 := qy_run_qn hcb256 13 0 bg1 N1 _ (by rw [← hwf])
  have q2 : qn cb1 (qy_run cb1 N1 13 0 (va_up bgf 0 0)).2 N1 13 0 N1 := qy_run_qn hcb256 13 0 _ N1 _ (by rw [← hwf2])
  refine ⟨h1.keep (s 20 (by omega) (by omega)) (hI 19 (by omega) (by omega) (by omega) (by omega)), (s 18 (by omega) (by omega)).trans h2, ⟨by rw [va_up_n (by omega), va_up_s]; rfl, fun j hj => absurd hj (Nat.not_lt_zero j)⟩, ⟨fun j => if j < N1 then cb1 j else cbm j, fun j => if j < 3 * N1 then (qy_run cb1 N1 13 0 (va_up bgf 0 0)).2 j else bgm j, fun j hj => ?_, fun j hj => ?_, ?_, fun j hj => if_pos hj, ?_⟩, h5.keep (s 49 (by omega) (by omega)) (s 48 (by omega) (by omega)) (s 51 (by omega) (by omega)) (hI 50 (by omega) (by omega) (by omega) (by omega)) (mrg.of (fun k hk => hI k (by omega) (by omega) (by omega) (by omega))), h6.keep (s 17 (by omega) (by omega)) (mrg.of (fun k hk => hI k (by omega) (by omega) (by omega) (by omega)))⟩
  · show I2 33 j = nI (if j < N1 then cb1 j else cbm j)
    rw [h33 j]
    by_cases hj2 : j < N1
    · rw [if_pos hj2, if_pos hj2]
    · rw [if_neg hj2, if_neg hj2]; exact k1 j hj
  · show I2 34 j = nI (if j < 3 * N1 then (qy_run cb1 N1 13 0 (va_up bgf 0 0)).2 j else bgm j)
    rw [h34 j]
    by_cases hj2 : j < 3 * N1
    · rw [if_pos hj2, if_pos hj2]
    · rw [if_neg hj2, if_neg hj2]; exact k2 j hj
  · exact (q2.congr (fun j _ hj => if_pos (by omega))).cbc (fun j hj => if_pos hj)
  · exact (two.2 N1 hwf).congr q1 (fun _ _ _ => rfl) (fun j _ hj => if_pos (by omega))
/-- both run the same -/
theorem li_same {cbm bgm : Nat → Nat} (hq : qn cb bg N 13 0 N) (hc : ∀ j, j < N → cbm j = cb j) (ha : qa cb bg bgm 13 0) {Y Z : vt} : sr_D cbm bgm 20 0 Y Z = sr_D cb bg 20 0 Y Z := by
  show sr_add 1 _ = sr_add 1 _
  rw [sr_B_congr hc hq ha]
theorem li_run (h : li_m tx n bd X N cb bg N1 cb1 φ en xs S I J) {r : List vt × Nat × Nat} (hr : mrn S I J r S2 I2 J2) : li_m tx n bd X N cb bg N1 cb1 r.2.2 (nI r.2.1) r.1 S2 I2 J2 := by
  obtain ⟨h1, h2, h3, h4, h5, h6⟩ := h
  obtain ⟨⟨r1, r2, r3, r4⟩, ⟨nv2, np2, r5, r6, r7⟩, r8, r9, r10, r11, r12, r13, r14, r15, r16⟩ := hr
  exact ⟨h1.keep (r12 20 (by omega)) r15, (r12 18 (by omega)).trans h2, h3.keep (r12 30 (by omega)) r16, h4.keep r13 r14, ⟨⟨r1, r2, r3, r4⟩, nv2, np2, r5, r6, r7⟩, h6.keep (r12 17 (by omega)) ⟨fun k v hk hv _ => r8 k v hk (by omega), fun k v hk hv _ => r9 k v hk (by omega), fun p _ hp => r10 p hp⟩⟩
theorem li_doc0 {q : Nat} (h : li_m tx n bd X N cb bg N1 cb1 φ en xs S I J) (hd : dcm S I J (q, none) S2 I2 J2) : S2 0 = 1 ∧ li_m tx 0 (nI q) X N cb bg N1 cb1 φ en xs S2 I2 J2 := by
  obtain ⟨h1, h2, h3, h4, h5, h6⟩ := h
  obtain ⟨d1, d2, -⟩ := hd
  obtain ⟨d3, d4, d5, d6, rfl⟩ := d2 rfl
  refine ⟨d4, ⟨d1, Nat.zero_le _, fun j hj => absurd hj (Nat.not_lt_zero j)⟩, d3, h3.keep (d5 30 (by omega) (by omega) (by omega) (by omega) (by omega) (by omega) (by omega)) (d6 29 (by omega)), h4.keep (d6 33 (by omega)) (d6 34 (by omega)), h5.keep (d5 49 (by omega) (by omega) (by omega) (by omega) (by omega) (by omega) (by omega)) (d5 48 (by omega) (by omega) (by omega) (by omega) (by omega) (by omega) (by omega)) (d5 51 (by omega) (by omega) (by omega) (by omega) (by omega) (by omega) (by omega)) (d6 50 (by omega)) (mrg.of (fun k hk => d6 k (by omega))), h6.keep (d5 17 (by omega) (by omega) (by omega) (by omega) (by omega) (by omega) (by omega)) (mrg.of (fun k hk => d6 k (by omega)))⟩
theorem li_doc1 {q : Nat} {Y : vt} (h : li_m tx n bd X N cb bg N1 cb1 φ en xs S I J) (hd : dcm S I J (q, some Y) S2 I2 J2) : S2 0 = 0 ∧ li_m tx 0 (-1) Y N cb bg N1 cb1 φ en xs S2 I2 J2 := by
  obtain ⟨h1, h2, h3, h4, h5, h6⟩ := h
  obtain ⟨d1, -, d2⟩ := hd
  obtain ⟨d3, d4, d5, d6, d7, d8, d9, nv, np, u, e1, e2, e3, e4, e5⟩ := d2 Y rfl
  have s : ∀ k, (k = 30 ∨ k = 48 ∨ k = 49 ∨ k = 51) → S2 k = S k := fun k hk => d5 k (by omega) (by omega) (by omega) (by omega) (by omega) (by omega) (by omega) (by omega) (by omega) (by omega)
  have i : ∀ k, (k = 29 ∨ k = 33 ∨ k = 34 ∨ k = 50) → I2 k = I k := fun k hk => d6 k (by omega) (by omega) (by omega) (by omega) (by omega) (by omega) (by omega) (by omega) (by omega)
  exact ⟨d4, ⟨d1, Nat.zero_le _, fun j hj => absurd hj (Nat.not_lt_zero j)⟩, d3, h3.keep (s 30 (by omega)) (i 29 (by omega)), h4.keep (i 33 (by omega)) (i 34 (by omega)), h5.keep (s 49 (by omega)) (s 48 (by omega)) (s 51 (by omega)) (i 50 (by omega)) ⟨fun k v hk hv h7 => d7 k v hk (by omega) h7, fun k v hk hv h7 => d8 k v hk (by omega) h7, fun p hp _ => d9 p hp⟩, nv, np, u, by omega, by omega, e3, e4, e5⟩
theorem li_adopt {j root : Nat} {nv1 np1 : Nat} {Y : vt} (h : li_m tx n bd X N cb bg N1 cb1 φ en xs S I J) (hr : cp_R 260 nv1 300 np1 29 0 Y (va_up S 0 0) I J root S2 I2 J2) : va_up S2 17 (nI root) 0 = 0 ∧ li_m tx n bd Y N cb bg N1 cb1 φ en xs (va_up S2 17 (nI root)) I2 J2 := by
  obtain ⟨h1, h2, h3, h4, h5, h6⟩ := h
  obtain ⟨nv, np, r1, r2, r3, ⟨f1, f2, f3, f4⟩, -, -, r4⟩ := hr
  have s : ∀ k, k ≠ 0 → k ≠ 11 → k ≠ 12 → k ≠ 17 → va_up S2 17 (nI root) k = S k := fun k a0 a1 a2 a3 => by rw [va_up_n a3, r4 k a1 a2, va_up_n a0]
  have i : ∀ k, (k = 19 ∨ k = 29 ∨ k = 33 ∨ k = 34 ∨ k = 50) → I2 k = I k := fun k hk => f4 k (by omega) (by omega) (by omega) (by omega) (by omega) (by omega) (by omega)
  exact ⟨by rw [va_up_n (by omega), r4 0 (by omega) (by omega), va_up_s], h1.keep (s 20 (by omega) (by omega) (by omega) (by omega)) (i 19 (by omega)), (s 18 (by omega) (by omega) (by omega) (by omega)).trans h2, h3.keep (s 30 (by omega) (by omega) (by omega) (by omega)) (i 29 (by omega)), h4.keep (i 33 (by omega)) (i 34 (by omega)), h5.keep (s 49 (by omega) (by omega) (by omega) (by omega)) (s 48 (by omega) (by omega) (by omega) (by omega)) (s 51 (by omega) (by omega) (by omega) (by omega)) (i 50 (by omega)) ⟨fun k v hk hv h7 => f1 k v hk (by omega), fun k v hk hv h7 => f2 k v hk (by omega), fun p hp _ => f3 p (by omega)⟩, nv, np, root, by omega, by omega, va_up_s, r1, r2⟩
/-- the value asked for, on the model's side -/
theorem li_val {k : Int32} {Y : vt} (h : li_m tx n bd X N cb bg N1 cb1 φ en xs S I J) (hv : qf_v X xs k Y) : ∃ vv b nv pb np, mo_val S I k vv ∧ mw I J b nv pb np vv Y ∧ np ≤ 8800 := by
  obtain ⟨-, -, -, -, ⟨⟨-, -, -, h16⟩, nv2, np2, h5, h6, h7⟩, nvd, npd, u, h8, h9, h10, h11, -⟩ := h
  rcases hv with ⟨h1, rfl⟩ | ⟨j, hj, h1, rfl⟩
  · exact ⟨u, _, _, _, _, Or.inl ⟨h1, h10⟩, h11, by omega⟩
  · obtain ⟨o, h12, h13⟩ := h7 j hj
    exact ⟨o, _, _, _, _, Or.inr ⟨j, by omega, h1, h12⟩, h13, by omega⟩
theorem li_no1 {k : Int32} {Y : vt} (hl : xs.length ≤ 16) (h51 : S 51 = nI xs.length) (hv : qf_v X xs k Y) : (decide (k < -1) || !decide (k < S 51)) = false := by
  rw [h51]
  rcases hv with ⟨rfl, -⟩ | ⟨j, hj, rfl, -⟩
  · rw [decide_eq_false (by decide), decide_eq_true (Int32.lt_iff_toInt_lt.mpr (by rw [nI_toInt (by omega)]; show (-1 : Int) < _; omega))]
    rfl
  · rw [decide_eq_false (fun z => by have := Int32.lt_iff_toInt_lt.mp z; rw [nI_toInt (by omega)] at this; have h2 : ((-1 : Int32)).toInt = -1 := rfl; omega), decide_eq_true (Int32.lt_iff_toInt_lt.mpr (by rw [nI_toInt (by omega), nI_toInt (by omega)]; omega))]
    rfl
theorem li_no0 {k : Int32} (h51 : S 51 = nI xs.length) (h1 : k ≠ -1) (h : qf_o xs k) : (decide (k < -1) || !decide (k < S 51)) = true := by
  rw [h51]
  rcases h with h | h
  · rw [decide_eq_true (fa_m1 h h1)]; rfl
  · rw [decide_eq_false h]; simp
theorem li_ao1 {j : Nat} (hl : xs.length ≤ 16) (h51 : S 51 = nI xs.length) (hj : j < xs.length) : (decide (nI j < 0) || !decide (nI j < S 51)) = false := by
  rw [h51, decide_eq_false (fun z => by have := Int32.lt_iff_toInt_lt.mp z; rw [nI_toInt (by omega)] at this; have h2 : ((0 : Int32)).toInt = 0 := rfl; omega), decide_eq_true (Int32.lt_iff_toInt_lt.mpr (by rw [nI_toInt (by omega), nI_toInt (by omega)]; omega))]
  rfl
theorem li_ao0 {k : Int32} (h51 : S 51 = nI xs.length) (h : qf_o xs k) : (decide (k < 0) || !decide (k < S 51)) = true := by
  rw [h51]
  rcases h with h | h
  · rw [decide_eq_true h]; rfl
  · rw [decide_eq_false h]; simp
end LI
theorem vo_leaf {k : Nat} (hk : k < 3) : vo 8 (vt_0 k) := vo_o.mpr ⟨by show k ≤ 6; omega, fun _ => rfl, fun _ => rfl, lt_ok0, by show 0 = if k = 6 then 0 else 0; split <;> rfl, fun _ => rfl, Nat.zero_le _, by show 1 ≤ 100; omega, ⟨Nat.zero_le _, fun _ => rfl⟩, rfl, fun j hj => absurd hj (Nat.not_lt_zero j), fun j hj => absurd hj (Nat.not_lt_zero j)⟩
/-- the model at its start -/
theorem li_mc0 : mc (mo_i0 29) (mo_j0 29) 29 29 0 0 := by
  have leaf : ∀ k, k < 3 → mw (mo_i0 29) (mo_j0 29) 29 29 0 0 k (vt_0 k) := fun k hk => by
    refine ⟨mv_o.mpr ⟨⟨Or.inl (by omega), by omega⟩, ?_, ?_, ?_, ⟨Nat.zero_le _, fun i hi => ?_⟩, ?_, ?_, fun z => absurd z (by show ¬ 5 ≤ k; omega)⟩, ?_⟩
    · rcases (show k = 0 ∨ k = 1 ∨ k = 2 by omega) with rfl | rfl | rfl <;> rfl
    · rcases (show k = 0 ∨ k = 1 ∨ k = 2 by omega) with rfl | rfl | rfl <;> rfl
    · rcases (show k = 0 ∨ k = 1 ∨ k = 2 by omega) with rfl | rfl | rfl <;> rfl
    · have h0 : ∀ q, (q = 6 ∨ q = 7 ∨ q = 8) → mo_j0 29 q k = 0 := fun q hq => by
        rcases (show k = 0 ∨ k = 1 ∨ k = 2 by omega) with rfl | rfl | rfl <;> rcases hq with rfl | rfl | rfl <;> rfl
      rw [h0 6 (by omega), h0 7 (by omega), h0 8 (by omega)]
      exact (show ∀ i, i < 24 → ml_at 0 0 0 i = ([] : List Int32).getD i 0 by decide +kernel) i hi
    · rcases (show k = 0 ∨ k = 1 ∨ k = 2 by omega) with rfl | rfl | rfl <;> rfl
    · rcases (show k = 0 ∨ k = 1 ∨ k = 2 by omega) with rfl | rfl | rfl <;> rfl
    · exact vo_leaf (by omega)
  refine ⟨leaf 0 (by decide), leaf 1 (by decide), leaf 2 (by decide), fun j hj => ⟨⟨Or.inl (by omega), by omega⟩, ?_, ?_, ?_, ⟨(by show 1 ≤ 24; decide), fun k hk => ?_⟩, ?_, ?_⟩⟩
  · exact (show ∀ j, j < 26 → mo_i0 29 1 (3 + j) = nI 4 by decide +kernel) j hj
  · exact (show ∀ j, j < 26 → mo_j0 29 2 (3 + j) = 0 by decide +kernel) j hj
  · exact (show ∀ j, j < 26 → mo_i0 29 3 (3 + j) = nI 1 by decide +kernel) j hj
  · exact (show ∀ j, j < 26 → ∀ k, k < 24 → ml_at (mo_j0 29 6 (3 + j)) (mo_j0 29 7 (3 + j)) (mo_j0 29 8 (3 + j)) k = [nI (97 + j)].getD k 0 by decide +kernel) j hj k hk
  · exact (show ∀ j, j < 26 → mo_i0 29 4 (3 + j) = nI 1 by decide +kernel) j hj
  · exact (show ∀ j, j < 26 → mo_i0 29 5 (3 + j) = nI 1 by decide +kernel) j hj
theorem li_q0 : qn (fun _ => 0) (fun _ => 0) 1 13 0 1 := ⟨⟨by decide, by decide, by decide, fun z => absurd z (by decide), fun z => absurd z (by decide)⟩, fun _ => 0, fun i hi => absurd hi (Nat.not_lt_zero i), fun i j _ hj => absurd hj (Nat.not_lt_zero j)⟩
theorem li_cb0 : (va_up (fun _ => 0) 0 0 : Nat → Nat) = fun _ => 0 := by
  funext j
  by_cases h : j = 0
  · rw [h, va_up_s]
  · rw [va_up_n h]
theorem li_start : li_m (fun _ => 0) 0 (-1) (vt_0 0) 1 (va_up (fun _ => 0) 0 0) (fun _ => 0) 0 (fun _ => 0) 0 (-1) [] mo_s0 (mo_i0 29) (mo_j0 29) := by
  refine ⟨⟨rfl, Nat.zero_le _, fun j hj => absurd hj (Nat.not_lt_zero j)⟩, rfl, ⟨rfl, fun j hj => absurd hj (Nat.not_lt_zero j)⟩, ⟨fun _ => 0, fun _ => 0, fun j _ => ?_, fun j _ => ?_, li_q0, fun j _ => by rw [li_cb0], ?_⟩, ⟨⟨rfl, rfl, rfl, by decide⟩, 0, 0, by decide, by decide, fun j hj => absurd hj (Nat.not_lt_zero j)⟩, 29, 0, 0, by decide, by decide, rfl, li_mc0.1, li_mc0⟩
  · unfold mo_i0; split <;> rfl
  · unfold mo_i0; split <;> rfl
  · rw [li_cb0]
    exact fun i hi => absurd hi (Nat.not_lt_zero i)
