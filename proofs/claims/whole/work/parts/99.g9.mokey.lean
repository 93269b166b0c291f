/-! seal once more; what a step of the reading keeps; key and close of the model. Printed by wip/whole/gen_mo38.py. -/
/-- what a step of the reading leaves as it was: the levels below dp, all values from 260 on and what they hold in the pool -/
def rE (bd : Bool) (dp : Nat) (S : Nat → Int32) (I : mo_I) (J : mo_J) (nv np : Nat) (S2 : Nat → Int32) (I2 : mo_I) (J2 : mo_J) (nv2 np2 : Nat) : Prop :=
  (∀ k, k ≠ 16 → k ≠ 21 → k ≠ 28 → (bd = true → k ≠ 11 ∧ k ≠ 12) → S2 k = S k) ∧
  (∀ k, (k < 22 ∨ 26 < k) → (bd = true → k ≠ 1 ∧ k ≠ 3 ∧ k ≠ 4 ∧ k ≠ 5 ∧ k ≠ 9 ∧ k ≠ 10 ∧ k ≠ 14 ∧ k ≠ 15) → I2 k = I k) ∧
  (bd = false → J2 = J) ∧
  ((∀ j, j < 16 * dp → I2 22 j = I 22 j ∧ I2 23 j = I 23 j) ∧ ∀ j, j < dp → I2 24 j = I 24 j ∧ I2 26 j = I 26 j) ∧
  (bd = true → ma I J I2 J2 29 nv 0 np ∧ (∀ k v, (k = 1 ∨ k = 3 ∨ k = 4 ∨ k = 5 ∨ k = 9) → 260 ≤ v → I2 k v = I k v) ∧ (∀ k v, (k = 2 ∨ k = 6 ∨ k = 7 ∨ k = 8) → 260 ≤ v → J2 k v = J k v) ∧ (∀ q, 300 ≤ q → I2 10 q = I 10 q) ∧ (S 11 = nI nv → S2 11 = nI nv2) ∧ (S 12 = nI np → S2 12 = nI np2)) ∧ nv ≤ nv2 ∧ np ≤ np2
theorem rE.tr {bd : Bool} {d1 d2 dp nv np nv1 np1 nv2 np2 : Nat} {S S1 S2 : Nat → Int32} {I I1 I2 : mo_I} {J J1 J2 : mo_J} (h : rE bd d1 S I J nv np S1 I1 J1 nv1 np1) (g : rE bd d2 S1 I1 J1 nv1 np1 S2 I2 J2 nv2 np2) (h1 : dp ≤ d1) (h2 : dp ≤ d2) : rE bd dp S I J nv np S2 I2 J2 nv2 np2 := by
  obtain ⟨a1, a2, a3, a4, a5, a6, a7⟩ := h
  obtain ⟨b1, b2, b3, b4, b5, b6, b7⟩ := g
  refine ⟨fun k x1 x2 x3 x4 => (b1 k x1 x2 x3 x4).trans (a1 k x1 x2 x3 x4), fun k x1 x2 => (b2 k x1 x2).trans (a2 k x1 x2), fun z => (b3 z).trans (a3 z), ⟨fun j hj => ⟨(b4.1 j (by omega)).1.trans (a4.1 j (by omega)).1, (b4.1 j (by omega)).2.trans (a4.1 j (by omega)).2⟩, fun j hj => ⟨(b4.2 j (by omega)).1.trans (a4.2 j (by omega)).1, (b4.2 j (by omega)).2.trans (a4.2 j (by omega)).2⟩⟩, fun z => ?_, by omega, by omega⟩
  obtain ⟨c1, c2, c3, c4, c5, c6⟩ := a5 z
  obtain ⟨e1, e2, e3, e4, e5, e6⟩ := b5 z
  exact ⟨c1.tr e1 a6 a7, fun k v hk hv => (e2 k v hk hv).trans (c2 k v hk hv), fun k v hk hv => (e3 k v hk hv).trans (c3 k v hk hv), fun q hq => (e4 q hq).trans (c4 q hq), fun y => e5 (c5 y), fun y => e6 (c6 y)⟩
theorem rE.s {bd : Bool} {dp nv np : Nat} {S S2 : Nat → Int32} {I : mo_I} {J : mo_J} (h : ∀ k, k ≠ 16 → k ≠ 21 → k ≠ 28 → S2 k = S k) : rE bd dp S I J nv np S2 I J nv np := by
  refine ⟨fun k x1 x2 x3 _ => h k x1 x2 x3, fun _ _ _ => rfl, fun _ => rfl, ⟨fun _ _ => ⟨rfl, rfl⟩, fun _ _ => ⟨rfl, rfl⟩⟩, fun _ => ⟨ma.rf, fun _ _ _ _ => rfl, fun _ _ _ _ => rfl, fun _ _ => rfl, fun y => ?_, fun y => ?_⟩, Nat.le_refl _, Nat.le_refl _⟩
  · rw [h 11 (by decide) (by decide) (by decide)]; exact y
  · rw [h 12 (by decide) (by decide) (by decide)]; exact y
theorem rE.a21 {bd : Bool} {dp nv np : Nat} {S S2 : Nat → Int32} {I : mo_I} {J : mo_J} (h : ∀ k, k ≠ 21 → S2 k = S k) : rE bd dp S I J nv np S2 I J nv np := rE.s (fun k _ x _ => h k x)
/-- arrays 22 to 26 change from level dp on -/
theorem rE.i {bd : Bool} {dp nv np : Nat} {S : Nat → Int32} {I I2 : mo_I} {J : mo_J} (h : ∀ k, (k < 22 ∨ 26 < k) → I2 k = I k) (h1 : ∀ j, j < 16 * dp → I2 22 j = I 22 j ∧ I2 23 j = I 23 j) (h2 : ∀ j, j < dp → I2 24 j = I 24 j ∧ I2 26 j = I 26 j) : rE bd dp S I J nv np S I2 J nv np := by
  refine ⟨fun _ _ _ _ _ => rfl, fun k x _ => h k x, fun _ => rfl, ⟨h1, h2⟩, fun _ => ⟨⟨fun k v hk _ => by rw [h k (by omega)], fun _ _ _ _ => rfl, fun p _ _ => by rw [h 10 (by omega)]⟩, fun k v hk _ => by rw [h k (by omega)], fun _ _ _ _ => rfl, fun q _ => by rw [h 10 (by omega)], fun y => y, fun y => y⟩, Nat.le_refl _, Nat.le_refl _⟩
theorem rO.rE {bd : Bool} {nv np : Nat} {S S2 : Nat → Int32} {I I2 : mo_I} {J J2 : mo_J} {oo : Option vt} (h : rO bd S I J nv np oo S2 I2 J2) (hb : bd = true → ∃ X, oo = some X) (hnv : nv < 260) : ∃ nv2, nv2 ≤ nv + 1 ∧ rE bd 8 S I J nv np S2 I2 J2 nv2 np ∧ (∀ k, k ≠ 1 → k ≠ 3 → k ≠ 4 → k ≠ 5 → I2 k = I k) ∧ (bd = true → ∀ X, oo = some X → ∃ u, S2 28 = nI u ∧ mw I2 J2 29 nv2 0 np u X) := by
  cases bd with
  | false =>
    obtain ⟨h1, h2, h3⟩ := h.1 rfl
    subst h2; subst h3
    exact ⟨nv, Nat.le_succ _, rE.s (fun k _ x1 x2 => h1 k x1 x2), fun _ _ _ _ _ => rfl, fun z => by cases z⟩
  | true =>
    obtain ⟨X, hX⟩ := hb rfl
    obtain ⟨h1, h2, h3, nv2, u, h5, h6, h7, h8⟩ := h.2 rfl X hX
    have h12 : S2 12 = S 12 := h1 12 (by decide) (by decide) (by decide)
    refine ⟨nv2, h5.2.1, ⟨fun k x1 x2 x3 x4 => h1 k (x4 rfl).1 x2 x3, fun k x1 x2 => h2 k (x2 rfl).1 (x2 rfl).2.1 (x2 rfl).2.2.1 (x2 rfl).2.2.2.1, fun z => (by cases z), ⟨fun j _ => ⟨by rw [h2 22 (by decide) (by decide) (by decide) (by decide)], by rw [h2 23 (by decide) (by decide) (by decide) (by decide)]⟩, fun j _ => ⟨by rw [h2 24 (by decide) (by decide) (by decide) (by decide)], by rw [h2 26 (by decide) (by decide) (by decide) (by decide)]⟩⟩, fun _ => ⟨h3, fun k v hk hv => (h5.2.2 k v (by omega) (by omega)).1, fun k v hk hv => (h5.2.2 k v (by omega) (by omega)).2, fun q _ => by rw [h2 10 (by decide) (by decide) (by decide) (by decide)], fun _ => h6, fun y => by rw [h12]; exact y⟩, h5.1, Nat.le_refl _⟩, h2, fun _ Y hY => ?_⟩
    rw [hX] at hY; cases hY; exact ⟨u, h7, h8⟩
def rd_q (tx : Nat → Nat) (n p : Nat) : Nat × Option (List Int32) := if sg tx n p = 34 then rd_s tx n n (p + 1) [] else (p, none)
theorem rd_K_q {tx : Nat → Nat} {n p : Nat} : rd_K tx n p = match rd_q tx n (rbl tx n p) with
    | (q, none) => (q, none)
    | (q, some L) => if sg tx n (rbl tx n q) = 58 then (rbl tx n q + 1, some L) else (rbl tx n q, none) := by
  unfold rd_K rd_q
  by_cases h : sg tx n (rbl tx n p) = 34
  · rw [if_neg (fun z => z h), if_pos h]; rfl
  · rw [if_pos h, if_neg h]
theorem c_Mo_lettersG (l : Launch) (E : gh_E) (sz : Nat) (f : gh_F) (a : Nat) (ad : Nat → Nat) (S : Nat → Int32) (I : Nat → Nat → Int32) (J : Nat → Nat → Int64) (tx : Nat → Nat) (n pl nv np : Nat) (bd : Bool) (hX : mo_R E f a ad S I J) (hT : rT tx n S I) (h21 : S 21 = nI pl) (hp : pl ≤ n) (h27 : S 27 = gh_bi bd) (hb : bd = true → S 11 = nI nv ∧ nv < 760 ∧ 29 ≤ nv) : gh_M l y_Mo_letters b_Mo_letters 4 (some .boolean) E sz [.ref a] f { frames := 6, cells := 0, slots := 0, locals := 140 } (fun r g => r = some (.int (gh_bi (rd_q tx n pl).2.isSome)) ∧ ∃ S2 I2 J2, mo_X E f g a ad S2 I2 J2 ∧ S2 21 = nI (rd_q tx n pl).1 ∧ rO bd S I J nv np ((rd_q tx n pl).2.map vt_t) S2 I2 J2) := by
  by_cases hq : sg tx n pl = 34
  · rw [show rd_q tx n pl = rd_s tx n n (pl + 1) [] from if_pos hq]
    cases bd with
    | false => exact c_Mo_lettersF l E sz f a ad S I J tx n pl nv np hX hT h21 hp hq h27
    | true => exact c_Mo_lettersT l E sz f a ad S I J tx n pl nv np hX hT h21 hp hq h27 (hb rfl).1 (hb rfl).2.1 (hb rfl).2.2
  · rw [show rd_q tx n pl = (pl, none) from if_neg hq]
    refine gh_weak (c_Mo_letters0 l E sz f a ad S I J tx n pl hX hT h21 hp hq) (fun r g h => ?_)
    rw [h.2]
    exact ⟨h.1, S, I, J, ⟨hX, gh_fr.rf⟩, h21, fun _ => ⟨fun _ _ _ => rfl, rfl, rfl⟩, fun _ X hz => by cases hz⟩
theorem c_Mo_scalarG (l : Launch) (E : gh_E) (sz : Nat) (f : gh_F) (a : Nat) (ad : Nat → Nat) (S : Nat → Int32) (I : Nat → Nat → Int32) (J : Nat → Nat → Int64) (tx : Nat → Nat) (n pl nv np : Nat) (bd : Bool) (hX : mo_R E f a ad S I J) (hT : rT tx n S I) (h21 : S 21 = nI pl) (hp : pl ≤ n) (h27 : S 27 = gh_bi bd) (hb : bd = true → S 11 = nI nv ∧ nv < 760 ∧ 29 ≤ nv ∧ mc I J 29 nv 0 np) : gh_M l y_Mo_scalar b_Mo_scalar 2 (some .boolean) E sz [.ref a] f { frames := 10, cells := 0, slots := 0, locals := 240 } (fun r g => r = some (.int (gh_bi (rd_c tx n true pl).2.isSome)) ∧ ∃ S2 I2 J2, mo_X E f g a ad S2 I2 J2 ∧ S2 21 = nI (rd_c tx n true pl).1 ∧ rO bd S I J nv np (rd_c tx n true pl).2 S2 I2 J2) := by
  cases bd with
  | false => exact c_Mo_scalarF l E sz f a ad S I J tx n pl nv np hX hT h21 hp h27
  | true => exact c_Mo_scalarT l E sz f a ad S I J tx n pl nv np hX hT h21 hp h27 (hb rfl).1 (hb rfl).2.1 (hb rfl).2.2.1 (hb rfl).2.2.2
/-- what key leaves, where it was good or nothing is built -/
def rKO (bd : Bool) (dp cn : Nat) (S : Nat → Int32) (I : mo_I) (J : mo_J) (nv np : Nat) (oo : Option (List Int32)) (S2 : Nat → Int32) (I2 : mo_I) (J2 : mo_J) : Prop := (bd = true → oo.isSome = true) → ∃ nv2, nv2 ≤ nv + 1 ∧ rE bd dp S I J nv np S2 I2 J2 nv2 np ∧ (I2 22 = I 22 ∧ I2 24 = I 24 ∧ I2 26 = I 26 ∧ ∀ j, j < 16 * dp + cn → I2 23 j = I 23 j) ∧ (bd = true → ∀ L, oo = some L → ∃ y, I2 23 (16 * dp + cn) = nI y ∧ mv_S I2 J2 29 nv2 y L)
theorem ky_F {bd : Bool} {dp cn nv np : Nat} {S S3 S4 : Nat → Int32} {I I4 : mo_I} {J J4 : mo_J} (g3 : ∀ k, k ≠ 21 → S3 k = S k) (gO : rO bd S3 I J nv np none S4 I4 J4) : rKO bd dp cn S I J nv np none S4 I4 J4 := by
  intro hb
  cases bd with
  | true => cases hb rfl
  | false =>
    obtain ⟨h1, h2, h3⟩ := gO.1 rfl
    subst h2; subst h3
    exact ⟨nv, Nat.le_succ _, rE.s (fun k _ x1 x2 => (h1 k x1 x2).trans (g3 k x1)), ⟨rfl, rfl, rfl, fun _ _ => rfl⟩, fun z => by cases z⟩
theorem ky_E {bd : Bool} {dp cn nv np : Nat} {S S3 S4 S6 : Nat → Int32} {I I4 : mo_I} {J J4 : mo_J} {L : List Int32} {oo : Option (List Int32)} (hdp : dp < 8) (g3 : ∀ k, k ≠ 21 → S3 k = S k) (gO : rO bd S3 I J nv np (some (vt_t L)) S4 I4 J4) (g6 : ∀ k, k ≠ 21 → S6 k = S4 k) (ho : ∀ L2, oo = some L2 → L2 = L) (hnv : nv < 260) : rKO bd dp cn S I J nv np oo S6 (va_up I4 23 (upd (I4 23) (16 * dp + cn) (S4 28))) J4 := by
  intro _
  obtain ⟨nv2, h1, h2, h3, h4⟩ := gO.rE (fun _ => ⟨_, rfl⟩) hnv
  have e1 : rE bd 8 S I J nv np S3 I J nv np := rE.a21 g3
  have e3 : rE bd dp S4 I4 J4 nv2 np S4 (va_up I4 23 (upd (I4 23) (16 * dp + cn) (S4 28))) J4 nv2 np := rE.i (fun k hk => va_up_n (by omega)) (fun j hj => ⟨by rw [va_up_n (by decide)], by rw [va_up_s]; simp only [upd]; rw [if_neg (by omega)]⟩) (fun j _ => ⟨by rw [va_up_n (by decide)], by rw [va_up_n (by decide)]⟩)
  have e4 : rE bd 8 S4 (va_up I4 23 (upd (I4 23) (16 * dp + cn) (S4 28))) J4 nv2 np S6 (va_up I4 23 (upd (I4 23) (16 * dp + cn) (S4 28))) J4 nv2 np := rE.a21 g6
  have e12 : rE bd 8 S I J nv np S4 I4 J4 nv2 np := e1.tr h2 (Nat.le_refl _) (Nat.le_refl _)
  have e13 := e12.tr (dp := dp) e3 (by omega) (Nat.le_refl _)
  refine ⟨nv2, h1, e13.tr e4 (Nat.le_refl _) (by omega), ⟨?_, ?_, ?_, fun j hj => ?_⟩, fun hb L2 hL => ?_⟩
  · rw [va_up_n (by decide)]; exact h3 22 (by decide) (by decide) (by decide) (by decide)
  · rw [va_up_n (by decide)]; exact h3 24 (by decide) (by decide) (by decide) (by decide)
  · rw [va_up_n (by decide)]; exact h3 26 (by decide) (by decide) (by decide) (by decide)
  · rw [va_up_s]; simp only [upd]; rw [if_neg (by omega), h3 23 (by decide) (by decide) (by decide) (by decide)]
  · obtain ⟨u, h5, h6⟩ := h4 hb _ rfl
    rw [ho L2 hL]
    refine ⟨u, ?_, ?_⟩
    · rw [va_up_s]; simp only [upd]; rw [if_pos trivial]; exact h5
    · exact (h6.key rfl).keep (e3.2.2.2.2.1 hb).1 (Nat.le_refl _)
set_option maxHeartbeats 4000000 in
set_option maxRecDepth 100000 in
theorem c_Mo_seal2 (l : Launch) (E : gh_E) (sz : Nat) (f : gh_F) (a : Nat) (ad : Nat → Nat) (S : Nat → Int32) (I : Nat → Nat → Int32) (J : Nat → Nat → Int64) (b0 nv pb np ky : Nat) (ks : List (List Int32)) (xs : List vt) (hX : mo_R E f a ad S I J) (hg : mg S I J b0 nv pb np ks xs) (hS11 : S 11 = nI nv) (hS12 : S 12 = nI np) (hnv : nv < 760) (h29 : 29 ≤ nv) (hx16 : xs.length ≤ 16) (hp8 : np + 2 * xs.length ≤ 8800) (hky : ky = 5 ∨ ky = 6) : gh_M l y_Mo_seal b_Mo_seal 4 (some .int) E sz [.ref a, .int (nI ky)] f { frames := 4, cells := 0, slots := 0, locals := 120 } (fun r g => r = some (.int (nI nv)) ∧ ∃ S2 I2 J2, mo_X E f g a ad S2 I2 J2 ∧ sl_o S I J b0 nv pb np ky xs S2 I2 J2 ∧ mfar I J I2 J2 (nv + 1) ∧ ∀ q, np + 2 * xs.length ≤ q → I2 10 q = I 10 q) := by
  have hgc := hg
  obtain ⟨B, K, hS16, hx32, hkx, hB, hK⟩ := hgc
  refine gh_open (by decide) (Nat.le_of_ble_eq_true rfl) ?_
  intro p e s m args below meth c A ls hAe C V hr hlocks hname hl
  have hx := C.1
  have hb := C.2.1
  have hl : lv_has ls 4 [(0, .ref a), (1, .int (nI ky))] := hl
  have X : mo_X E f f a ad S I J := ⟨hX, gh_fr.rf⟩
  refine lv_aload_n hx hb d_Mo_seal_0 rfl (lv_at hl 0 rfl) ?_
  refine lv_iload_n hx hb d_Mo_seal_1 rfl (lv_at hl 1 rfl) ?_
  refine lv_lconst (v := 0) hx hb d_Mo_seal_2 (by decide) ?_
  refine gh_callV C V hl.1 m_Mo_make l_Mo_159 (c_Mo_mk l E _ _ a ad _ _ _ (nI ky) 0 nv X.1 hS11 hnv) rfl X.1.1 gc_Mo ⟨by first | decide | omega | (dsimp only; omega), by first | decide | omega | (dsimp only; omega)⟩ ⟨by first | decide | omega | (dsimp only; omega), by first | decide | omega | (dsimp only; omega)⟩ (Nat.le_of_ble_eq_true rfl) rfl d_Mo_seal_3 (fun r z9 H locs hp V1 => ?_)
  obtain ⟨rfl, S2, I2, J2, X2, hmk⟩ := hp
  have X := X.then X2
  have V := V1
  have hS2_16 : S2 16 = nI xs.length := by rw [hmk.1, va_up_n (by decide)]; exact hS16
  have hS2_12 : S2 12 = nI np := by rw [hmk.1, va_up_n (by decide)]; exact hS12
  have hS16 := hS2_16
  have hS12 := hS2_12
  refine W.eq (g2 := F0 m 6 ls [.int (nI nv)]) rfl ?_
  refine lv_istore_n hx hb d_Mo_seal_6 rfl hl (by decide) rfl (fun ls hl => ?_)
  have hl : lv_has ls 4 [(2, .int (nI nv)), (0, .ref a), (1, .int (nI ky))] := hl
  refine lv_aload_n hx hb d_Mo_seal_7 rfl (lv_at hl 1 rfl) ?_
  refine mo_getA C V X 3 (by decide) (by decide) f_Mo_17 rfl d_Mo_seal_8 ?_
  refine lv_iload_n hx hb d_Mo_seal_11 rfl (lv_at hl 0 rfl) ?_
  refine lv_aload_n hx hb d_Mo_seal_12 rfl (lv_at hl 1 rfl) ?_
  refine mo_getS (v := nI (xs.length)) C V X 16 (by decide) (by decide) (by first | rfl | exact hS16) f_Mo_156 rfl d_Mo_seal_13 ?_
  refine mo_ist (k := 3) (i := nv) (n := 760) C V X (by decide) (by decide) rfl (by omega) (by decide) d_Mo_seal_16 (fun f1 H locs V1 X1 => ?_)
  clear V X
  have V := V1
  have X := X1
  clear V1 X1
  refine lv_aload_n hx hb d_Mo_seal_17 rfl (lv_at hl 1 rfl) ?_
  refine mo_getA C V X 9 (by decide) (by decide) f_Mo_35 rfl d_Mo_seal_18 ?_
  refine lv_iload_n hx hb d_Mo_seal_21 rfl (lv_at hl 0 rfl) ?_
  refine lv_aload_n hx hb d_Mo_seal_22 rfl (lv_at hl 1 rfl) ?_
  refine mo_getS (v := nI np) C V X 12 (by decide) (by decide) (by first | rfl | exact hS12) f_Mo_163 rfl d_Mo_seal_23 ?_
  refine mo_ist (k := 9) (i := nv) (n := 760) C V X (by decide) (by decide) rfl (by omega) (by decide) d_Mo_seal_26 (fun f1 H locs V1 X1 => ?_)
  clear V X
  have V := V1
  have X := X1
  clear V1 X1
  refine lv_iconst (v := 0) hx hb d_Mo_seal_27 (by decide) ?_
  refine lv_istore_n hx hb d_Mo_seal_28 rfl hl (by decide) rfl (fun ls hl => ?_)
  have hl : lv_has ls 4 [(3, .int 0), (2, .int (nI nv)), (0, .ref a), (1, .int (nI ky))] := hl
  have hI0 : ∃ I0 : mo_I, I0 = va_up (va_up I2 3 (upd (I2 3) nv (nI (xs.length)))) 9 (upd ((va_up I2 3 (upd (I2 3) nv (nI (xs.length)))) 9) nv (nI np)) := ⟨_, rfl⟩
  obtain ⟨I0, hI0⟩ := hI0
  rw [← hI0] at X
  have e1 : I0 1 nv = nI ky := by rw [hI0]; simp [va_up, upd]; exact hmk.2.2.1.1
  have e3 : I0 3 nv = nI xs.length := by rw [hI0]; simp [va_up, upd]
  have e4 : I0 4 nv = 1 := by rw [hI0]; simp [va_up, upd]; exact hmk.2.2.1.2.2.1
  have e5 : I0 5 nv = 1 := by rw [hI0]; simp [va_up, upd]; exact hmk.2.2.1.2.2.2
  have e9 : I0 9 nv = nI np := by rw [hI0]; simp [va_up, upd]
  have eo : ∀ k j, (k ≠ 1 ∧ k ≠ 3 ∧ k ≠ 4 ∧ k ≠ 5 ∧ k ≠ 9) ∨ j ≠ nv → I0 k j = I k j := fun k j hkj => by
    rw [hI0]
    by_cases k9 : k = 9
    · subst k9; rw [va_up_s, va_up_n (by decide)]; simp only [upd]; rw [if_neg (by omega)]; exact hmk.2.1 9 j (Or.inl (by decide))
    · rw [va_up_n k9]
      by_cases k3 : k = 3
      · subst k3; rw [va_up_s]; simp only [upd]; rw [if_neg (by omega)]; exact hmk.2.1 3 j (Or.inr (by omega))
      · rw [va_up_n k3]; exact hmk.2.1 k j (by omega)
  have hl : lv_has ls 4 [(3, .int 0), (0, .ref a), (1, .int (nI ky)), (2, .int (nI nv))] := lv_sub hl [0, 2, 3, 1] rfl
  have hl : lv_has ls 4 [(3, .int (nI 0)), (0, .ref a), (1, .int (nI ky)), (2, .int (nI nv))] := hl
  have loop : ∀ (n9 i9 : Nat) (S1 : Nat → Int32) (I1 : mo_I) (f1 : gh_F) (H : Heap) (locs : List Loc) (ls : Array Slot), i9 + n9 = xs.length → (I1 1 nv = nI ky) → (I1 3 nv = nI xs.length) → (I1 4 nv = nI (vt_wsum (xs.take i9))) → (I1 5 nv = nI (vt_hmax (xs.take i9) + 1)) → (I1 9 nv = nI np) → (∀ k j, k ≠ 10 → (k ≠ 1 ∧ k ≠ 3 ∧ k ≠ 4 ∧ k ≠ 5 ∧ k ≠ 9) ∨ j ≠ nv → I1 k j = I k j) → ((∀ q, q < np → I1 10 q = I 10 q) ∧ ∀ j, j < i9 → I1 10 (np + j) = I 14 j ∧ I1 10 (np + xs.length + j) = I 15 j) → (S1 = S2) → (∀ q, np + 2 * xs.length ≤ q → I1 10 q = I 10 q) → mo_X E f f1 a ad S1 I1 J2 → gh_V E A f1 s H locs → lv_has ls 4 [(3, .int (nI i9)), (0, .ref a), (1, .int (nI ky)), (2, .int (nI nv))] → W p l e { frames := 4, cells := 0, slots := 0, locals := 120 } s m args below meth c H locs 0 0 (MQ below (gh_Q E f (fun r g => r = some (.int (nI nv)) ∧ ∃ S2 I2 J2, mo_X E f g a ad S2 I2 J2 ∧ sl_o S I J b0 nv pb np ky xs S2 I2 J2 ∧ mfar I J I2 J2 (nv + 1) ∧ ∀ q, np + 2 * xs.length ≤ q → I2 10 q = I 10 q)) args s 0 0 A) (F0 m 29 ls []) := by
    intro n9
    induction n9 with
    | zero =>
      intro i9 S1 I1 f1 H locs ls hi q1_ q3_ q4_ q5_ q9_ qo qp qS qf X V hl
      rw [qS] at X
      refine lv_iload_n hx hb d_Mo_seal_29 rfl (lv_at hl 0 rfl) ?_
      refine lv_aload_n hx hb d_Mo_seal_30 rfl (lv_at hl 1 rfl) ?_
      refine mo_getS (v := nI (xs.length)) C V X 16 (by decide) (by decide) (by first | rfl | exact hS16) f_Mo_156 rfl d_Mo_seal_31 ?_
      refine lv_icmp_ge (tgt := 154) hx hb d_Mo_seal_34 (by decide) (fun c1 => ?_) (fun c1 => absurd (nI_le (by omega) (by omega)) c1)
      refine lv_aload_n hx hb d_Mo_seal_154 rfl (lv_at hl 1 rfl) ?_
      refine lv_aload_n hx hb d_Mo_seal_155 rfl (lv_at hl 1 rfl) ?_
      refine mo_getS (v := nI np) C V X 12 (by decide) (by decide) (by first | rfl | exact hS12) f_Mo_163 rfl d_Mo_seal_156 ?_
      refine lv_iload_n hx hb d_Mo_seal_159 rfl (lv_at hl 2 rfl) ?_
      refine lv_bipush (v := 6) hx hb d_Mo_seal_160 (by decide) ?_
      refine lv_icmp_ne (tgt := 174) hx hb d_Mo_seal_162 (by decide) (fun c2 => ?_) (fun c2 => ?_)
      · have c2 : ¬ ky = 6 := by rw [← gq_eq (a := ky) (b := 6) (by omega) (by omega)]; exact c2
        refine lv_aload_n hx hb d_Mo_seal_174 rfl (lv_at hl 1 rfl) ?_
        refine mo_getS (v := nI (xs.length)) C V X 16 (by decide) (by decide) (by first | rfl | exact hS16) f_Mo_156 rfl d_Mo_seal_175 ?_
        refine gn_iadd (a := np) (b := xs.length) hx hb d_Mo_seal_178 ?_
        refine mo_putS C V X 12 (by decide) (by decide) f_Mo_163 rfl rfl rfl d_Mo_seal_179 (fun f1 H locs V1 X1 => ?_)
        clear V X
        have V := V1
        have X := X1
        clear V1 X1
        refine lv_iload_n hx hb d_Mo_seal_182 rfl (lv_at hl 3 rfl) ?_
        refine gh_reti hAe C V hr hlocks d_Mo_seal_183 (by first | decide | omega | (dsimp only; omega)) (by first | decide | omega | (dsimp only; omega)) ?_
        have hi9 : i9 = xs.length := by omega
        subst hi9
        rw [List.take_length] at q4_ q5_
        refine ⟨rfl, _, I1, J2, X, ⟨?_, ?_, ?_, fun k h1 h2 => ?_, fun k j h10 hkj => qo k j h10 (Or.inl hkj), ?_⟩, fun k v hk hv => ⟨qo k v hk (Or.inr (by omega)), hmk.2.2.2.1 k v (Or.inr (by omega))⟩, qf⟩
        · exact ⟨fun k u hk hu => qo k u (by omega) (Or.inr (hu.new h29)), fun k u hk hu => hmk.2.2.2.1 k u (Or.inr (hu.new h29)), fun q _ hq => qp.1 q hq⟩
        · rw [va_up_n (by decide), hmk.1, va_up_s]
        · rw [va_up_s, if_neg (by omega), Nat.one_mul]
        · rw [va_up_n h2, hmk.1, va_up_n h1]
        · exact ⟨q1_, q3_, q4_, q5_, q9_, qp.2, hmk.2.2.2.2⟩
      · have c2 : ky = 6 := by rw [← gq_eq (a := ky) (b := 6) (by omega) (by omega)]; exact c2
        refine lv_iconst (v := 2) hx hb d_Mo_seal_165 (by decide) ?_
        refine lv_aload_n hx hb d_Mo_seal_166 rfl (lv_at hl 1 rfl) ?_
        refine mo_getS (v := nI (xs.length)) C V X 16 (by decide) (by decide) (by first | rfl | exact hS16) f_Mo_156 rfl d_Mo_seal_167 ?_
        refine gn_imul (a := 2) (b := xs.length) hx hb d_Mo_seal_170 ?_
        refine lv_goto (tgt := 178) hx hb d_Mo_seal_171 (by decide) ?_
        refine gn_iadd (a := np) (b := 2 * xs.length) hx hb d_Mo_seal_178 ?_
        refine mo_putS C V X 12 (by decide) (by decide) f_Mo_163 rfl rfl rfl d_Mo_seal_179 (fun f1 H locs V1 X1 => ?_)
        clear V X
        have V := V1
        have X := X1
        clear V1 X1
        refine lv_iload_n hx hb d_Mo_seal_182 rfl (lv_at hl 3 rfl) ?_
        refine gh_reti hAe C V hr hlocks d_Mo_seal_183 (by first | decide | omega | (dsimp only; omega)) (by first | decide | omega | (dsimp only; omega)) ?_
        have hi9 : i9 = xs.length := by omega
        subst hi9
        rw [List.take_length] at q4_ q5_
        refine ⟨rfl, _, I1, J2, X, ⟨?_, ?_, ?_, fun k h1 h2 => ?_, fun k j h10 hkj => qo k j h10 (Or.inl hkj), ?_⟩, fun k v hk hv => ⟨qo k v hk (Or.inr (by omega)), hmk.2.2.2.1 k v (Or.inr (by omega))⟩, qf⟩
        · exact ⟨fun k u hk hu => qo k u (by omega) (Or.inr (hu.new h29)), fun k u hk hu => hmk.2.2.2.1 k u (Or.inr (hu.new h29)), fun q _ hq => qp.1 q hq⟩
        · rw [va_up_n (by decide), hmk.1, va_up_s]
        · rw [va_up_s, if_pos (by omega)]
        · rw [va_up_n h2, hmk.1, va_up_n h1]
        · exact ⟨q1_, q3_, q4_, q5_, q9_, qp.2, hmk.2.2.2.2⟩
    | succ n9 ih =>
      intro i9 S1 I1 f1 H locs ls hi q1_ q3_ q4_ q5_ q9_ qo qp qS qf X V hl
      rw [qS] at X
      have hB9 := hB i9 (by omega)
      obtain ⟨hav9, -, -, -, -, hsz9, hht9, -⟩ := mv_o.mp hB9.2.1
      have hbn := hav9.new h29
      have hit9 : I1 14 i9 = nI (B i9) := by rw [qo 14 i9 (by decide) (Or.inl (by decide))]; exact hB9.1
      have hsz9 : I1 4 (B i9) = nI (vt_w (xs.getD i9 (vt_0 0))) := by rw [qo 4 _ (by decide) (Or.inr hbn)]; exact hsz9
      have hht9 : I1 5 (B i9) = nI (vt_h (xs.getD i9 (vt_0 0)) + 1) := by rw [qo 5 _ (by decide) (Or.inr hbn)]; exact hht9
      have hlim := hB9.2.2
      have hbl := (vo_o.mp hlim).2.2.2.2.2.2.2.1
      have hbh := (vo_o.mp hlim).2.2.2.2.2.2.2.2.1.1
      have hb7 := hav9.2
      have hws := vt_wsum_le (xs := xs.take i9) (B := 100) (fun j hj => by have hj2 : j < i9 := by { simp at hj; omega }; rw [show (xs.take i9).getD j (vt_0 0) = xs.getD j (vt_0 0) by simp [List.getD, hj2]]; exact (vo_o.mp (hB j (by omega)).2.2).2.2.2.2.2.2.2.1)
      have hhs := vt_hmax_le (xs := xs.take i9) (B := 7) (fun j hj => by have hj2 : j < i9 := by { simp at hj; omega }; rw [show (xs.take i9).getD j (vt_0 0) = xs.getD j (vt_0 0) by simp [List.getD, hj2]]; exact (vo_o.mp (hB j (by omega)).2.2).2.2.2.2.2.2.2.2.1.1)
      have htl : (xs.take i9).length ≤ 16 := by simp; omega
      refine lv_iload_n hx hb d_Mo_seal_29 rfl (lv_at hl 0 rfl) ?_
      refine lv_aload_n hx hb d_Mo_seal_30 rfl (lv_at hl 1 rfl) ?_
      refine mo_getS (v := nI (xs.length)) C V X 16 (by decide) (by decide) (by first | rfl | exact hS16) f_Mo_156 rfl d_Mo_seal_31 ?_
      refine lv_icmp_ge (tgt := 154) hx hb d_Mo_seal_34 (by decide) (fun c3 => absurd c3 (nI_ge (by omega) (by omega))) (fun c3 => ?_)
      refine lv_aload_n hx hb d_Mo_seal_37 rfl (lv_at hl 1 rfl) ?_
      refine mo_getA C V X 10 (by decide) (by decide) f_Mo_38 rfl d_Mo_seal_38 ?_
      refine lv_aload_n hx hb d_Mo_seal_41 rfl (lv_at hl 1 rfl) ?_
      refine mo_getS (v := nI np) C V X 12 (by decide) (by decide) (by first | rfl | exact hS12) f_Mo_163 rfl d_Mo_seal_42 ?_
      refine lv_iload_n hx hb d_Mo_seal_45 rfl (lv_at hl 0 rfl) ?_
      refine gn_iadd (a := np) (b := i9) hx hb d_Mo_seal_46 ?_
      refine lv_aload_n hx hb d_Mo_seal_47 rfl (lv_at hl 1 rfl) ?_
      refine mo_getA C V X 14 (by decide) (by decide) f_Mo_44 rfl d_Mo_seal_48 ?_
      refine lv_iload_n hx hb d_Mo_seal_51 rfl (lv_at hl 0 rfl) ?_
      refine mo_ild (k := 14) (i := i9) (n := 32) C V X (by decide) (by decide) rfl (by omega) (by decide) d_Mo_seal_52 ?_
      rw [show I1 14 i9 = nI (B i9) from (by simp [va_up, upd, hit9])]
      refine mo_ist (k := 10) (i := np + i9) (n := 8800) C V X (by decide) (by decide) rfl (by omega) (by decide) d_Mo_seal_53 (fun f1 H locs V1 X1 => ?_)
      clear V X
      have V := V1
      have X := X1
      clear V1 X1
      refine lv_aload_n hx hb d_Mo_seal_54 rfl (lv_at hl 1 rfl) ?_
      refine mo_getA C V X 10 (by decide) (by decide) f_Mo_38 rfl d_Mo_seal_55 ?_
      refine lv_aload_n hx hb d_Mo_seal_58 rfl (lv_at hl 1 rfl) ?_
      refine mo_getS (v := nI np) C V X 12 (by decide) (by decide) (by first | rfl | exact hS12) f_Mo_163 rfl d_Mo_seal_59 ?_
      refine lv_aload_n hx hb d_Mo_seal_62 rfl (lv_at hl 1 rfl) ?_
      refine mo_getS (v := nI (xs.length)) C V X 16 (by decide) (by decide) (by first | rfl | exact hS16) f_Mo_156 rfl d_Mo_seal_63 ?_
      refine gn_iadd (a := np) (b := xs.length) hx hb d_Mo_seal_66 ?_
      refine lv_iload_n hx hb d_Mo_seal_67 rfl (lv_at hl 0 rfl) ?_
      refine gn_iadd (a := np + xs.length) (b := i9) hx hb d_Mo_seal_68 ?_
      refine lv_aload_n hx hb d_Mo_seal_69 rfl (lv_at hl 1 rfl) ?_
      refine mo_getA C V X 15 (by decide) (by decide) f_Mo_47 rfl d_Mo_seal_70 ?_
      refine lv_iload_n hx hb d_Mo_seal_73 rfl (lv_at hl 0 rfl) ?_
      refine mo_ild (k := 15) (i := i9) (n := 32) C V X (by decide) (by decide) rfl (by omega) (by decide) d_Mo_seal_74 ?_
      refine mo_ist (k := 10) (i := (np + xs.length) + i9) (n := 8800) C V X (by decide) (by decide) rfl (by omega) (by decide) d_Mo_seal_75 (fun f1 H locs V1 X1 => ?_)
      clear V X
      have V := V1
      have X := X1
      clear V1 X1
      refine lv_aload_n hx hb d_Mo_seal_76 rfl (lv_at hl 1 rfl) ?_
      refine mo_getA C V X 4 (by decide) (by decide) f_Mo_20 rfl d_Mo_seal_77 ?_
      refine lv_iload_n hx hb d_Mo_seal_80 rfl (lv_at hl 3 rfl) ?_
      refine lv_aload_n hx hb d_Mo_seal_81 rfl (lv_at hl 1 rfl) ?_
      refine mo_getA C V X 4 (by decide) (by decide) f_Mo_20 rfl d_Mo_seal_82 ?_
      refine lv_iload_n hx hb d_Mo_seal_85 rfl (lv_at hl 3 rfl) ?_
      refine mo_ild (k := 4) (i := nv) (n := 760) C V X (by decide) (by decide) rfl (by omega) (by decide) d_Mo_seal_86 ?_
      rw [show (va_up (va_up I1 10 (upd (I1 10) (np + i9) (nI (B i9)))) 10 (upd ((va_up I1 10 (upd (I1 10) (np + i9) (nI (B i9)))) 10) ((np + xs.length) + i9) ((va_up I1 10 (upd (I1 10) (np + i9) (nI (B i9)))) 15 i9))) 4 nv = nI (vt_wsum (xs.take i9)) from (by simp [va_up, upd, q4_])]
      refine lv_aload_n hx hb d_Mo_seal_87 rfl (lv_at hl 1 rfl) ?_
      refine mo_getA C V X 4 (by decide) (by decide) f_Mo_20 rfl d_Mo_seal_88 ?_
      refine lv_aload_n hx hb d_Mo_seal_91 rfl (lv_at hl 1 rfl) ?_
      refine mo_getA C V X 14 (by decide) (by decide) f_Mo_44 rfl d_Mo_seal_92 ?_
      refine lv_iload_n hx hb d_Mo_seal_95 rfl (lv_at hl 0 rfl) ?_
      refine mo_ild (k := 14) (i := i9) (n := 32) C V X (by decide) (by decide) rfl (by omega) (by decide) d_Mo_seal_96 ?_
      rw [show (va_up (va_up I1 10 (upd (I1 10) (np + i9) (nI (B i9)))) 10 (upd ((va_up I1 10 (upd (I1 10) (np + i9) (nI (B i9)))) 10) ((np + xs.length) + i9) ((va_up I1 10 (upd (I1 10) (np + i9) (nI (B i9)))) 15 i9))) 14 i9 = nI (B i9) from (by simp [va_up, upd, hit9])]
      refine mo_ild (k := 4) (i := B i9) (n := 760) C V X (by decide) (by decide) rfl (by omega) (by decide) d_Mo_seal_97 ?_
      rw [show (va_up (va_up I1 10 (upd (I1 10) (np + i9) (nI (B i9)))) 10 (upd ((va_up I1 10 (upd (I1 10) (np + i9) (nI (B i9)))) 10) ((np + xs.length) + i9) ((va_up I1 10 (upd (I1 10) (np + i9) (nI (B i9)))) 15 i9))) 4 (B i9) = nI (vt_w (xs.getD i9 (vt_0 0))) from (by simp [va_up, upd, hsz9])]
      refine gn_iadd (a := vt_wsum (xs.take i9)) (b := vt_w (xs.getD i9 (vt_0 0))) hx hb d_Mo_seal_98 ?_
      refine mo_ist (k := 4) (i := nv) (n := 760) C V X (by decide) (by decide) rfl (by omega) (by decide) d_Mo_seal_99 (fun f1 H locs V1 X1 => ?_)
      clear V X
      have V := V1
      have X := X1
      clear V1 X1
      refine lv_aload_n hx hb d_Mo_seal_100 rfl (lv_at hl 1 rfl) ?_
      refine mo_getA C V X 5 (by decide) (by decide) f_Mo_23 rfl d_Mo_seal_101 ?_
      refine lv_iload_n hx hb d_Mo_seal_104 rfl (lv_at hl 3 rfl) ?_
      refine lv_aload_n hx hb d_Mo_seal_105 rfl (lv_at hl 1 rfl) ?_
      refine mo_getA C V X 5 (by decide) (by decide) f_Mo_23 rfl d_Mo_seal_106 ?_
      refine lv_aload_n hx hb d_Mo_seal_109 rfl (lv_at hl 1 rfl) ?_
      refine mo_getA C V X 14 (by decide) (by decide) f_Mo_44 rfl d_Mo_seal_110 ?_
      refine lv_iload_n hx hb d_Mo_seal_113 rfl (lv_at hl 0 rfl) ?_
      refine mo_ild (k := 14) (i := i9) (n := 32) C V X (by decide) (by decide) rfl (by omega) (by decide) d_Mo_seal_114 ?_
      rw [show (va_up (va_up (va_up I1 10 (upd (I1 10) (np + i9) (nI (B i9)))) 10 (upd ((va_up I1 10 (upd (I1 10) (np + i9) (nI (B i9)))) 10) ((np + xs.length) + i9) ((va_up I1 10 (upd (I1 10) (np + i9) (nI (B i9)))) 15 i9))) 4 (upd ((va_up (va_up I1 10 (upd (I1 10) (np + i9) (nI (B i9)))) 10 (upd ((va_up I1 10 (upd (I1 10) (np + i9) (nI (B i9)))) 10) ((np + xs.length) + i9) ((va_up I1 10 (upd (I1 10) (np + i9) (nI (B i9)))) 15 i9))) 4) nv (nI ((vt_wsum (xs.take i9)) + (vt_w (xs.getD i9 (vt_0 0))))))) 14 i9 = nI (B i9) from (by simp [va_up, upd, hit9])]
      refine mo_ild (k := 5) (i := B i9) (n := 760) C V X (by decide) (by decide) rfl (by omega) (by decide) d_Mo_seal_115 ?_
      rw [show (va_up (va_up (va_up I1 10 (upd (I1 10) (np + i9) (nI (B i9)))) 10 (upd ((va_up I1 10 (upd (I1 10) (np + i9) (nI (B i9)))) 10) ((np + xs.length) + i9) ((va_up I1 10 (upd (I1 10) (np + i9) (nI (B i9)))) 15 i9))) 4 (upd ((va_up (va_up I1 10 (upd (I1 10) (np + i9) (nI (B i9)))) 10 (upd ((va_up I1 10 (upd (I1 10) (np + i9) (nI (B i9)))) 10) ((np + xs.length) + i9) ((va_up I1 10 (upd (I1 10) (np + i9) (nI (B i9)))) 15 i9))) 4) nv (nI ((vt_wsum (xs.take i9)) + (vt_w (xs.getD i9 (vt_0 0))))))) 5 (B i9) = nI (vt_h (xs.getD i9 (vt_0 0)) + 1) from (by simp [va_up, upd, hht9])]
      refine lv_aload_n hx hb d_Mo_seal_116 rfl (lv_at hl 1 rfl) ?_
      refine mo_getA C V X 5 (by decide) (by decide) f_Mo_23 rfl d_Mo_seal_117 ?_
      refine lv_iload_n hx hb d_Mo_seal_120 rfl (lv_at hl 3 rfl) ?_
      refine mo_ild (k := 5) (i := nv) (n := 760) C V X (by decide) (by decide) rfl (by omega) (by decide) d_Mo_seal_121 ?_
      rw [show (va_up (va_up (va_up I1 10 (upd (I1 10) (np + i9) (nI (B i9)))) 10 (upd ((va_up I1 10 (upd (I1 10) (np + i9) (nI (B i9)))) 10) ((np + xs.length) + i9) ((va_up I1 10 (upd (I1 10) (np + i9) (nI (B i9)))) 15 i9))) 4 (upd ((va_up (va_up I1 10 (upd (I1 10) (np + i9) (nI (B i9)))) 10 (upd ((va_up I1 10 (upd (I1 10) (np + i9) (nI (B i9)))) 10) ((np + xs.length) + i9) ((va_up I1 10 (upd (I1 10) (np + i9) (nI (B i9)))) 15 i9))) 4) nv (nI ((vt_wsum (xs.take i9)) + (vt_w (xs.getD i9 (vt_0 0))))))) 5 nv = nI (vt_hmax (xs.take i9) + 1) from (by simp [va_up, upd, q5_])]
      refine lv_icmp_lt (tgt := 141) hx hb d_Mo_seal_122 (by decide) (fun c4 => ?_) (fun c4 => ?_)
      · have c4 : (vt_h (xs.getD i9 (vt_0 0)) + 1) < (vt_hmax (xs.take i9) + 1) := by rw [← gq_lt (a := vt_h (xs.getD i9 (vt_0 0)) + 1) (b := vt_hmax (xs.take i9) + 1) (by omega) (by omega)]; exact c4
        refine lv_aload_n hx hb d_Mo_seal_141 rfl (lv_at hl 1 rfl) ?_
        refine mo_getA C V X 5 (by decide) (by decide) f_Mo_23 rfl d_Mo_seal_142 ?_
        refine lv_iload_n hx hb d_Mo_seal_145 rfl (lv_at hl 3 rfl) ?_
        refine mo_ild (k := 5) (i := nv) (n := 760) C V X (by decide) (by decide) rfl (by omega) (by decide) d_Mo_seal_146 ?_
        rw [show (va_up (va_up (va_up I1 10 (upd (I1 10) (np + i9) (nI (B i9)))) 10 (upd ((va_up I1 10 (upd (I1 10) (np + i9) (nI (B i9)))) 10) ((np + xs.length) + i9) ((va_up I1 10 (upd (I1 10) (np + i9) (nI (B i9)))) 15 i9))) 4 (upd ((va_up (va_up I1 10 (upd (I1 10) (np + i9) (nI (B i9)))) 10 (upd ((va_up I1 10 (upd (I1 10) (np + i9) (nI (B i9)))) 10) ((np + xs.length) + i9) ((va_up I1 10 (upd (I1 10) (np + i9) (nI (B i9)))) 15 i9))) 4) nv (nI ((vt_wsum (xs.take i9)) + (vt_w (xs.getD i9 (vt_0 0))))))) 5 nv = nI (vt_hmax (xs.take i9) + 1) from (by simp [va_up, upd, q5_])]
        refine mo_ist (k := 5) (i := nv) (n := 760) C V X (by decide) (by decide) rfl (by omega) (by decide) d_Mo_seal_147 (fun f1 H locs V1 X1 => ?_)
        clear V X
        have V := V1
        have X := X1
        clear V1 X1
        refine lv_iinc (k := 0) (v := (nI i9) + 1) hx hb d_Mo_seal_148 hl rfl (by rfl) (by decide) rfl (fun ls hl => ?_)
        have hl : lv_has ls 4 [(3, .int (nI (i9 + 1))), (0, .ref a), (1, .int (nI ky)), (2, .int (nI nv))] := by rw [nI_succ]; exact hl
        refine lv_goto (tgt := 29) hx hb d_Mo_seal_151 (by decide) ?_
        have hl : lv_has ls 4 [(3, .int (nI (i9 + 1))), (0, .ref a), (1, .int (nI ky)), (2, .int (nI nv))] := lv_sub hl [0, 1, 2, 3] rfl
        have hl : lv_has ls 4 [(3, .int (nI (i9 + 1))), (0, .ref a), (1, .int (nI ky)), (2, .int (nI nv))] := hl
        have htk := vt_take (xs := xs) (n := i9) (by omega)
        refine ih (i9 + 1) S2 _ _ H locs ls (by omega) ?_ ?_ ?_ ?_ ?_ ?_ ?_ rfl ?_ X V hl
        · simp [va_up, upd]; exact q1_
        · simp [va_up, upd]; exact q3_
        · rw [htk, vt_wsum_app]; simp [va_up, upd]
        · rw [htk, vt_hmax_app]; simp [va_up, upd]; congr 1; have hgd : vt_h (xs[i9]?.getD (vt_0 0)) = vt_h (xs.getD i9 (vt_0 0)) := rfl; omega
        · simp [va_up, upd]; exact q9_
        · intro k j h10 hkj
          have := qo k j h10 hkj
          by_cases k5 : k = 5
          · subst k5; have hj : j ≠ nv := by omega
            simp [va_up, upd, hj]; exact this
          · by_cases k4 : k = 4
            · subst k4; have hj : j ≠ nv := by omega
              simp [va_up, upd, hj]; exact this
            · simp [va_up, k5, k4, h10]; exact this
        · have h15 : I1 15 i9 = I 15 i9 := qo 15 i9 (by decide) (Or.inl (by decide))
          refine ⟨fun q hq => ?_, fun j hj => ?_⟩
          · rw [va_up_n (by decide), va_up_n (by decide), va_up_s, va_up_s]; simp only [upd]; rw [if_neg (by omega), if_neg (by omega)]; exact qp.1 q hq
          · by_cases hji : j = i9
            · subst hji
              refine ⟨?_, ?_⟩
              · rw [va_up_n (by decide), va_up_n (by decide), va_up_s, va_up_s]; simp only [upd]; rw [if_neg (by omega), if_pos trivial]; exact hB9.1.symm
              · rw [va_up_n (by decide), va_up_n (by decide), va_up_s, va_up_s]; simp only [upd]; rw [if_pos trivial, va_up_n (by decide)]; exact h15
            · have := qp.2 j (by omega)
              refine ⟨?_, ?_⟩
              · rw [va_up_n (by decide), va_up_n (by decide), va_up_s, va_up_s]; simp only [upd]; rw [if_neg (by omega), if_neg (by omega)]; exact this.1
              · rw [va_up_n (by decide), va_up_n (by decide), va_up_s, va_up_s]; simp only [upd]; rw [if_neg (by omega), if_neg (by omega)]; exact this.2
        · intro q hq; rw [va_up_n (by decide), va_up_n (by decide), va_up_s, va_up_s]; simp only [upd]; rw [if_neg (by omega), if_neg (by omega)]; exact qf q hq
      · have c4 : ¬ (vt_h (xs.getD i9 (vt_0 0)) + 1) < (vt_hmax (xs.take i9) + 1) := by rw [← gq_lt (a := vt_h (xs.getD i9 (vt_0 0)) + 1) (b := vt_hmax (xs.take i9) + 1) (by omega) (by omega)]; exact c4
        refine lv_aload_n hx hb d_Mo_seal_125 rfl (lv_at hl 1 rfl) ?_
        refine mo_getA C V X 5 (by decide) (by decide) f_Mo_23 rfl d_Mo_seal_126 ?_
        refine lv_aload_n hx hb d_Mo_seal_129 rfl (lv_at hl 1 rfl) ?_
        refine mo_getA C V X 14 (by decide) (by decide) f_Mo_44 rfl d_Mo_seal_130 ?_
        refine lv_iload_n hx hb d_Mo_seal_133 rfl (lv_at hl 0 rfl) ?_
        refine mo_ild (k := 14) (i := i9) (n := 32) C V X (by decide) (by decide) rfl (by omega) (by decide) d_Mo_seal_134 ?_
        rw [show (va_up (va_up (va_up I1 10 (upd (I1 10) (np + i9) (nI (B i9)))) 10 (upd ((va_up I1 10 (upd (I1 10) (np + i9) (nI (B i9)))) 10) ((np + xs.length) + i9) ((va_up I1 10 (upd (I1 10) (np + i9) (nI (B i9)))) 15 i9))) 4 (upd ((va_up (va_up I1 10 (upd (I1 10) (np + i9) (nI (B i9)))) 10 (upd ((va_up I1 10 (upd (I1 10) (np + i9) (nI (B i9)))) 10) ((np + xs.length) + i9) ((va_up I1 10 (upd (I1 10) (np + i9) (nI (B i9)))) 15 i9))) 4) nv (nI ((vt_wsum (xs.take i9)) + (vt_w (xs.getD i9 (vt_0 0))))))) 14 i9 = nI (B i9) from (by simp [va_up, upd, hit9])]
        refine mo_ild (k := 5) (i := B i9) (n := 760) C V X (by decide) (by decide) rfl (by omega) (by decide) d_Mo_seal_135 ?_
        rw [show (va_up (va_up (va_up I1 10 (upd (I1 10) (np + i9) (nI (B i9)))) 10 (upd ((va_up I1 10 (upd (I1 10) (np + i9) (nI (B i9)))) 10) ((np + xs.length) + i9) ((va_up I1 10 (upd (I1 10) (np + i9) (nI (B i9)))) 15 i9))) 4 (upd ((va_up (va_up I1 10 (upd (I1 10) (np + i9) (nI (B i9)))) 10 (upd ((va_up I1 10 (upd (I1 10) (np + i9) (nI (B i9)))) 10) ((np + xs.length) + i9) ((va_up I1 10 (upd (I1 10) (np + i9) (nI (B i9)))) 15 i9))) 4) nv (nI ((vt_wsum (xs.take i9)) + (vt_w (xs.getD i9 (vt_0 0))))))) 5 (B i9) = nI (vt_h (xs.getD i9 (vt_0 0)) + 1) from (by simp [va_up, upd, hht9])]
        refine lv_iconst (v := 1) hx hb d_Mo_seal_136 (by decide) ?_
        refine gn_iadd (a := vt_h (xs.getD i9 (vt_0 0)) + 1) (b := 1) hx hb d_Mo_seal_137 ?_
        refine lv_goto (tgt := 147) hx hb d_Mo_seal_138 (by decide) ?_
        refine mo_ist (k := 5) (i := nv) (n := 760) C V X (by decide) (by decide) rfl (by omega) (by decide) d_Mo_seal_147 (fun f1 H locs V1 X1 => ?_)
        clear V X
        have V := V1
        have X := X1
        clear V1 X1
        refine lv_iinc (k := 0) (v := (nI i9) + 1) hx hb d_Mo_seal_148 hl rfl (by rfl) (by decide) rfl (fun ls hl => ?_)
        have hl : lv_has ls 4 [(3, .int (nI (i9 + 1))), (0, .ref a), (1, .int (nI ky)), (2, .int (nI nv))] := by rw [nI_succ]; exact hl
        refine lv_goto (tgt := 29) hx hb d_Mo_seal_151 (by decide) ?_
        have hl : lv_has ls 4 [(3, .int (nI (i9 + 1))), (0, .ref a), (1, .int (nI ky)), (2, .int (nI nv))] := lv_sub hl [0, 1, 2, 3] rfl
        have hl : lv_has ls 4 [(3, .int (nI (i9 + 1))), (0, .ref a), (1, .int (nI ky)), (2, .int (nI nv))] := hl
        have htk := vt_take (xs := xs) (n := i9) (by omega)
        refine ih (i9 + 1) S2 _ _ H locs ls (by omega) ?_ ?_ ?_ ?_ ?_ ?_ ?_ rfl ?_ X V hl
        · simp [va_up, upd]; exact q1_
        · simp [va_up, upd]; exact q3_
        · rw [htk, vt_wsum_app]; simp [va_up, upd]
        · rw [htk, vt_hmax_app]; simp [va_up, upd]; congr 1; have hgd : vt_h (xs[i9]?.getD (vt_0 0)) = vt_h (xs.getD i9 (vt_0 0)) := rfl; omega
        · simp [va_up, upd]; exact q9_
        · intro k j h10 hkj
          have := qo k j h10 hkj
          by_cases k5 : k = 5
          · subst k5; have hj : j ≠ nv := by omega
            simp [va_up, upd, hj]; exact this
          · by_cases k4 : k = 4
            · subst k4; have hj : j ≠ nv := by omega
              simp [va_up, upd, hj]; exact this
            · simp [va_up, k5, k4, h10]; exact this
        · have h15 : I1 15 i9 = I 15 i9 := qo 15 i9 (by decide) (Or.inl (by decide))
          refine ⟨fun q hq => ?_, fun j hj => ?_⟩
          · rw [va_up_n (by decide), va_up_n (by decide), va_up_s, va_up_s]; simp only [upd]; rw [if_neg (by omega), if_neg (by omega)]; exact qp.1 q hq
          · by_cases hji : j = i9
            · subst hji
              refine ⟨?_, ?_⟩
              · rw [va_up_n (by decide), va_up_n (by decide), va_up_s, va_up_s]; simp only [upd]; rw [if_neg (by omega), if_pos trivial]; exact hB9.1.symm
              · rw [va_up_n (by decide), va_up_n (by decide), va_up_s, va_up_s]; simp only [upd]; rw [if_pos trivial, va_up_n (by decide)]; exact h15
            · have := qp.2 j (by omega)
              refine ⟨?_, ?_⟩
              · rw [va_up_n (by decide), va_up_n (by decide), va_up_s, va_up_s]; simp only [upd]; rw [if_neg (by omega), if_neg (by omega)]; exact this.1
              · rw [va_up_n (by decide), va_up_n (by decide), va_up_s, va_up_s]; simp only [upd]; rw [if_neg (by omega), if_neg (by omega)]; exact this.2
        · intro q hq; rw [va_up_n (by decide), va_up_n (by decide), va_up_s, va_up_s]; simp only [upd]; rw [if_neg (by omega), if_neg (by omega)]; exact qf q hq
  exact loop (xs.length) 0 S2 I0 _ _ _ ls (by omega) e1 e3 e4 e5 e9 (fun k j _ h => eo k j h) ⟨fun q _ => eo 10 q (Or.inl (by decide)), fun j hj => absurd hj (Nat.not_lt_zero j)⟩ rfl (fun q _ => eo 10 q (Or.inl (by decide))) X V hl
theorem d_Mo_key_0 : decode b_Mo_key 0 = .ok (.aload_n 0, 1) := by decide +kernel
theorem d_Mo_key_1 : decode b_Mo_key 1 = .ok (.invokevirtual 214, 3) := by decide +kernel
theorem d_Mo_key_4 : decode b_Mo_key 4 = .ok (.aload_n 0, 1) := by decide +kernel
theorem d_Mo_key_5 : decode b_Mo_key 5 = .ok (.invokevirtual 217, 3) := by decide +kernel
theorem d_Mo_key_8 : decode b_Mo_key 8 = .ok (.ifCond .ne 5, 3) := by decide +kernel
theorem d_Mo_key_11 : decode b_Mo_key 11 = .ok (.iconst 0, 1) := by decide +kernel
theorem d_Mo_key_12 : decode b_Mo_key 12 = .ok (.ireturn, 1) := by decide +kernel
theorem d_Mo_key_13 : decode b_Mo_key 13 = .ok (.aload_n 0, 1) := by decide +kernel
theorem d_Mo_key_14 : decode b_Mo_key 14 = .ok (.getfield 60, 3) := by decide +kernel
theorem d_Mo_key_17 : decode b_Mo_key 17 = .ok (.bipush 16, 2) := by decide +kernel
theorem d_Mo_key_19 : decode b_Mo_key 19 = .ok (.iload_n 1, 1) := by decide +kernel
theorem d_Mo_key_20 : decode b_Mo_key 20 = .ok (.imul, 1) := by decide +kernel
theorem d_Mo_key_21 : decode b_Mo_key 21 = .ok (.aload_n 0, 1) := by decide +kernel
theorem d_Mo_key_22 : decode b_Mo_key 22 = .ok (.getfield 63, 3) := by decide +kernel
theorem d_Mo_key_25 : decode b_Mo_key 25 = .ok (.iload_n 1, 1) := by decide +kernel
theorem d_Mo_key_26 : decode b_Mo_key 26 = .ok (.iaload, 1) := by decide +kernel
theorem d_Mo_key_27 : decode b_Mo_key 27 = .ok (.iadd, 1) := by decide +kernel
theorem d_Mo_key_28 : decode b_Mo_key 28 = .ok (.aload_n 0, 1) := by decide +kernel
theorem d_Mo_key_29 : decode b_Mo_key 29 = .ok (.getfield 189, 3) := by decide +kernel
theorem d_Mo_key_32 : decode b_Mo_key 32 = .ok (.iastore, 1) := by decide +kernel
theorem d_Mo_key_33 : decode b_Mo_key 33 = .ok (.aload_n 0, 1) := by decide +kernel
theorem d_Mo_key_34 : decode b_Mo_key 34 = .ok (.invokevirtual 214, 3) := by decide +kernel
theorem d_Mo_key_37 : decode b_Mo_key 37 = .ok (.aload_n 0, 1) := by decide +kernel
theorem d_Mo_key_38 : decode b_Mo_key 38 = .ok (.invokevirtual 185, 3) := by decide +kernel
theorem d_Mo_key_41 : decode b_Mo_key 41 = .ok (.bipush 58, 2) := by decide +kernel
theorem d_Mo_key_43 : decode b_Mo_key 43 = .ok (.if_icmp .ne 7, 3) := by decide +kernel
theorem d_Mo_key_46 : decode b_Mo_key 46 = .ok (.iconst 1, 1) := by decide +kernel
theorem d_Mo_key_47 : decode b_Mo_key 47 = .ok (.goto 4, 3) := by decide +kernel
theorem d_Mo_key_50 : decode b_Mo_key 50 = .ok (.iconst 0, 1) := by decide +kernel
theorem d_Mo_key_51 : decode b_Mo_key 51 = .ok (.istore_n 2, 1) := by decide +kernel
theorem d_Mo_key_52 : decode b_Mo_key 52 = .ok (.aload_n 0, 1) := by decide +kernel
theorem d_Mo_key_53 : decode b_Mo_key 53 = .ok (.iload_n 2, 1) := by decide +kernel
theorem d_Mo_key_54 : decode b_Mo_key 54 = .ok (.ifCond .eq 12, 3) := by decide +kernel
theorem d_Mo_key_57 : decode b_Mo_key 57 = .ok (.aload_n 0, 1) := by decide +kernel
theorem d_Mo_key_58 : decode b_Mo_key 58 = .ok (.getfield 179, 3) := by decide +kernel
theorem d_Mo_key_61 : decode b_Mo_key 61 = .ok (.iconst 1, 1) := by decide +kernel
theorem d_Mo_key_62 : decode b_Mo_key 62 = .ok (.iadd, 1) := by decide +kernel
theorem d_Mo_key_63 : decode b_Mo_key 63 = .ok (.goto 7, 3) := by decide +kernel
theorem d_Mo_key_66 : decode b_Mo_key 66 = .ok (.aload_n 0, 1) := by decide +kernel
theorem d_Mo_key_67 : decode b_Mo_key 67 = .ok (.getfield 179, 3) := by decide +kernel
theorem d_Mo_key_70 : decode b_Mo_key 70 = .ok (.putfield 179, 3) := by decide +kernel
theorem d_Mo_key_73 : decode b_Mo_key 73 = .ok (.iload_n 2, 1) := by decide +kernel
theorem d_Mo_key_74 : decode b_Mo_key 74 = .ok (.ireturn, 1) := by decide +kernel
set_option maxHeartbeats 4000000 in
set_option maxRecDepth 100000 in
theorem c_Mo_key (l : Launch) (E : gh_E) (sz : Nat) (f : gh_F) (a : Nat) (ad : Nat → Nat) (S : Nat → Int32) (I : Nat → Nat → Int32) (J : Nat → Nat → Int64) (tx : Nat → Nat) (n pl : Nat) (dp cn nv np : Nat) (bd : Bool) (hX : mo_R E f a ad S I J) (hT : rT tx n S I) (h21 : S 21 = nI pl) (hp : pl ≤ n) (hdp : dp < 8) (hcn : cn < 16) (h24 : I 24 dp = nI cn) (h27 : S 27 = gh_bi bd) (hbd : bd = true → S 11 = nI nv ∧ nv < 760 ∧ 29 ≤ nv) (hnv : nv < 260) : gh_M l y_Mo_key b_Mo_key 3 (some .boolean) E sz [.ref a, .int (nI dp)] f { frames := 10, cells := 0, slots := 0, locals := 240 } (fun r g => r = some (.int (gh_bi (rd_K tx n pl).2.isSome)) ∧ ∃ S2 I2 J2, mo_X E f g a ad S2 I2 J2 ∧ S2 21 = nI (rd_K tx n pl).1 ∧ rKO bd dp cn S I J nv np (rd_K tx n pl).2 S2 I2 J2) := by
  have hsg := (hT.ch pl).1
  have hS21 := h21
  have hch : ∀ j, j < n → 32 ≤ tx j ∧ tx j ≤ 126 := fun j hj => (hT.2.2 j hj).2
  have h120 := hT.2.1
  refine gh_open (by decide) (Nat.le_of_ble_eq_true rfl) ?_
  intro p e s m args below meth c A ls hAe C V hr hlocks hname hl
  have hx := C.1
  have hb := C.2.1
  have hl : lv_has ls 3 [(0, .ref a), (1, .int (nI dp))] := hl
  have X : mo_X E f f a ad S I J := ⟨hX, gh_fr.rf⟩
  refine lv_aload_n hx hb d_Mo_key_0 rfl (lv_at hl 0 rfl) ?_
  refine gh_callV C V hl.1 m_Mo_blanks l_Mo_214 (c_Mo_blanks l E _ _ a ad _ _ _ tx n pl X.1 hT h21 (by omega)) rfl X.1.1 gc_Mo ⟨by first | decide | omega | (dsimp only; omega), by first | decide | omega | (dsimp only; omega)⟩ ⟨by first | decide | omega | (dsimp only; omega), by first | decide | omega | (dsimp only; omega)⟩ (Nat.le_of_ble_eq_true rfl) rfl d_Mo_key_1 (fun r z9 H locs hp9 V1 => ?_)
  obtain ⟨rfl, S3, X2, h21n, g3⟩ := hp9
  have X := X.then X2
  have V := V1
  have hT : rT tx n S3 I := hT.keep (g3 20 (by decide)) rfl
  have hbl9 := rbl_le (tx := tx) (n := n) (p := pl) (by omega)
  have hbg9 := rbl_ge (tx := tx) (n := n) (p := pl)
  have h21 := h21n
  have hS21 := h21
  have hsg := (hT.ch (rbl tx n pl)).1
  refine W.eq (g2 := F0 m 4 ls []) rfl ?_
  refine lv_aload_n hx hb d_Mo_key_4 rfl (lv_at hl 0 rfl) ?_
  refine gh_callV C V hl.1 m_Mo_letters l_Mo_217 (c_Mo_lettersG l E _ _ a ad _ _ _ tx n (rbl tx n pl) nv np bd X.1 hT h21 (by omega) ((g3 27 (by decide)).trans h27) (fun z => ⟨(g3 11 (by decide)).trans (hbd z).1, (hbd z).2⟩)) rfl X.1.1 gc_Mo ⟨by first | decide | omega | (dsimp only; omega), by first | decide | omega | (dsimp only; omega)⟩ ⟨by first | decide | omega | (dsimp only; omega), by first | decide | omega | (dsimp only; omega)⟩ (Nat.le_of_ble_eq_true rfl) rfl d_Mo_key_5 (fun r z9 H locs hp9 V1 => ?_)
  obtain ⟨rfl, S4, I4, J4, X2, h21n, gO⟩ := hp9
  have X := X.then X2
  have V := V1
  have h21 := h21n
  cases hq : rd_q tx n (rbl tx n pl) with
  | mk q9 o9 =>
    rw [hq] at h21 gO
    have hKq := rd_K_q (tx := tx) (n := n) (p := pl)
    rw [hq] at hKq
    have hqn : q9 ≤ n := by
      unfold rd_q at hq
      split at hq
      · rename_i h34
        have := sg_lt (by omega : sg tx n (rbl tx n pl) ≠ 0)
        exact (rd_s_ok (L := []) hch (by omega) ⟨Nat.zero_le _, fun j hj => absurd hj (Nat.not_lt_zero j)⟩ hq).2.1
      · cases hq; omega
    cases o9 with
    | none =>
      have hKq : rd_K tx n pl = (q9, none) := hKq
      refine W.eq (g2 := F0 m 8 ls [.int 0]) rfl ?_
      rw [hKq]
      refine lv_if_ne (tgt := 13) hx hb d_Mo_key_8 (by decide) (fun c1 => absurd (by decide) c1) (fun c1 => ?_)
      refine lv_iconst (v := 0) hx hb d_Mo_key_11 (by decide) ?_
      refine gh_retz hAe C V hr (by first | rfl | exact gh_bi_nar _ | decide) hlocks d_Mo_key_12 (by first | decide | omega | (dsimp only; omega)) (by first | decide | omega | (dsimp only; omega)) ?_
      exact ⟨rfl, _, _, _, X, h21, ky_F g3 gO⟩
    | some L =>
      have hKq : rd_K tx n pl = (if sg tx n (rbl tx n q9) = 58 then (rbl tx n q9 + 1, some L) else (rbl tx n q9, none)) := hKq
      refine W.eq (g2 := F0 m 8 ls [.int 1]) rfl ?_
      have gO : rO bd S3 I J nv np (some (vt_t L)) S4 I4 J4 := gO
      obtain ⟨nv9, -, hE9, hI9, -⟩ := gO.rE (fun _ => ⟨_, rfl⟩) hnv
      have h24 : I4 24 dp = nI cn := by rw [hI9 24 (by decide) (by decide) (by decide) (by decide)]; exact h24
      have hT : rT tx n S4 I4 := hT.keep (hE9.1 20 (by decide) (by decide) (by decide) (fun _ => by decide)) (hI9 19 (by decide) (by decide) (by decide) (by decide))
      refine lv_if_ne (tgt := 13) hx hb d_Mo_key_8 (by decide) (fun c2 => ?_) (fun c2 => absurd c2 (by decide))
      refine lv_aload_n hx hb d_Mo_key_13 rfl (lv_at hl 0 rfl) ?_
      refine mo_getA C V X 23 (by decide) (by decide) f_Mo_60 rfl d_Mo_key_14 ?_
      refine lv_bipush (v := 16) hx hb d_Mo_key_17 (by decide) ?_
      refine lv_iload_n hx hb d_Mo_key_19 rfl (lv_at hl 1 rfl) ?_
      refine gn_imul (a := 16) (b := dp) hx hb d_Mo_key_20 ?_
      refine lv_aload_n hx hb d_Mo_key_21 rfl (lv_at hl 0 rfl) ?_
      refine mo_getA C V X 24 (by decide) (by decide) f_Mo_63 rfl d_Mo_key_22 ?_
      refine lv_iload_n hx hb d_Mo_key_25 rfl (lv_at hl 1 rfl) ?_
      refine mo_ild (k := 24) (i := dp) (n := 8) C V X (by decide) (by decide) rfl (by omega) (by decide) d_Mo_key_26 ?_
      rw [show I4 24 dp = nI cn from h24]
      refine gn_iadd (a := 16 * dp) (b := cn) hx hb d_Mo_key_27 ?_
      refine lv_aload_n hx hb d_Mo_key_28 rfl (lv_at hl 0 rfl) ?_
      refine mo_getS (v := S4 28) C V X 28 (by decide) (by decide) (by first | rfl | exact hS28) f_Mo_189 rfl d_Mo_key_29 ?_
      refine mo_ist (k := 23) (i := (16 * dp) + cn) (n := 128) C V X (by decide) (by decide) rfl (by omega) (by decide) d_Mo_key_32 (fun f1 H locs V1 X1 => ?_)
      clear V X
      have V := V1
      have X := X1
      clear V1 X1
      have hT : rT tx n S4 (va_up I4 23 (upd (I4 23) ((16 * dp) + cn) (S4 28))) := hT.keep rfl (va_up_n (by decide))
      refine lv_aload_n hx hb d_Mo_key_33 rfl (lv_at hl 0 rfl) ?_
      refine gh_callV C V hl.1 m_Mo_blanks l_Mo_214 (c_Mo_blanks l E _ _ a ad _ _ _ tx n q9 X.1 hT h21 (by omega)) rfl X.1.1 gc_Mo ⟨by first | decide | omega | (dsimp only; omega), by first | decide | omega | (dsimp only; omega)⟩ ⟨by first | decide | omega | (dsimp only; omega), by first | decide | omega | (dsimp only; omega)⟩ (Nat.le_of_ble_eq_true rfl) rfl d_Mo_key_34 (fun r z9 H locs hp9 V1 => ?_)
      obtain ⟨rfl, S5, X2, h21n, g5⟩ := hp9
      have X := X.then X2
      have V := V1
      have hT : rT tx n S5 (va_up I4 23 (upd (I4 23) ((16 * dp) + cn) (S4 28))) := hT.keep (g5 20 (by decide)) rfl
      have hbl9 := rbl_le (tx := tx) (n := n) (p := q9) (by omega)
      have hbg9 := rbl_ge (tx := tx) (n := n) (p := q9)
      have h21 := h21n
      have hS21 := h21
      have hsg := (hT.ch (rbl tx n q9)).1
      refine W.eq (g2 := F0 m 37 ls []) rfl ?_
      refine lv_aload_n hx hb d_Mo_key_37 rfl (lv_at hl 0 rfl) ?_
      by_cases h58 : sg tx n (rbl tx n q9) = 58
      · rw [if_pos h58] at hKq
        rw [hKq]
        refine gh_callV C V hl.1 m_Mo_peek l_Mo_185 (c_Mo_pk l E _ _ a ad _ _ _ tx n (rbl tx n q9) X.1 hT h21 (by omega)) rfl X.1.1 gc_Mo ⟨by first | decide | omega | (dsimp only; omega), by first | decide | omega | (dsimp only; omega)⟩ ⟨by first | decide | omega | (dsimp only; omega), by first | decide | omega | (dsimp only; omega)⟩ (Nat.le_of_ble_eq_true rfl) rfl d_Mo_key_38 (fun r z9 H locs hp9 V1 => ?_)
        obtain ⟨rfl, he9⟩ := hp9
        rw [he9] at V1
        have V := V1
        refine W.eq (g2 := F0 m 41 ls [.int (pek (sg tx n (rbl tx n q9)))]) rfl ?_
        refine lv_bipush (v := 58) hx hb d_Mo_key_41 (by decide) ?_
        refine lv_icmp_ne (tgt := 50) hx hb d_Mo_key_43 (by decide) (fun c3 => absurd ((pek_eq (k := 58) (by omega) (by omega) (by omega)).mpr h58) c3) (fun c3 => ?_)
        refine lv_iconst (v := 1) hx hb d_Mo_key_46 (by decide) ?_
        refine lv_goto (tgt := 51) hx hb d_Mo_key_47 (by decide) ?_
        refine lv_istore_n hx hb d_Mo_key_51 rfl hl (by decide) rfl (fun ls hl => ?_)
        have hl : lv_has ls 3 [(2, .int 1), (0, .ref a), (1, .int (nI dp))] := hl
        refine lv_aload_n hx hb d_Mo_key_52 rfl (lv_at hl 1 rfl) ?_
        refine lv_iload_n hx hb d_Mo_key_53 rfl (lv_at hl 0 rfl) ?_
        refine lv_if_eq (tgt := 66) hx hb d_Mo_key_54 (by decide) (fun c4 => absurd c4 (by decide)) (fun c4 => ?_)
        refine lv_aload_n hx hb d_Mo_key_57 rfl (lv_at hl 1 rfl) ?_
        refine mo_getS (v := nI (rbl tx n q9)) C V X 21 (by decide) (by decide) (by first | rfl | exact hS21) f_Mo_179 rfl d_Mo_key_58 ?_
        refine lv_iconst (v := 1) hx hb d_Mo_key_61 (by decide) ?_
        refine gn_iadd (a := rbl tx n q9) (b := 1) hx hb d_Mo_key_62 ?_
        refine lv_goto (tgt := 70) hx hb d_Mo_key_63 (by decide) ?_
        refine mo_putS C V X 21 (by decide) (by decide) f_Mo_179 rfl rfl rfl d_Mo_key_70 (fun f1 H locs V1 X1 => ?_)
        clear V X
        have V := V1
        have X := X1
        clear V1 X1
        refine lv_iload_n hx hb d_Mo_key_73 rfl (lv_at hl 0 rfl) ?_
        refine gh_retz hAe C V hr (by first | rfl | exact gh_bi_nar _ | decide) hlocks d_Mo_key_74 (by first | decide | omega | (dsimp only; omega)) (by first | decide | omega | (dsimp only; omega)) ?_
        exact ⟨rfl, _, _, _, X, by rw [va_up_s], ky_E hdp g3 gO (fun k hk => by rw [va_up_n hk]; exact g5 k hk) (fun L2 hz => by injection hz with hz; exact hz.symm) hnv⟩
      · rw [if_neg h58] at hKq
        rw [hKq]
        refine gh_callV C V hl.1 m_Mo_peek l_Mo_185 (c_Mo_pk l E _ _ a ad _ _ _ tx n (rbl tx n q9) X.1 hT h21 (by omega)) rfl X.1.1 gc_Mo ⟨by first | decide | omega | (dsimp only; omega), by first | decide | omega | (dsimp only; omega)⟩ ⟨by first | decide | omega | (dsimp only; omega), by first | decide | omega | (dsimp only; omega)⟩ (Nat.le_of_ble_eq_true rfl) rfl d_Mo_key_38 (fun r z9 H locs hp9 V1 => ?_)
        obtain ⟨rfl, he9⟩ := hp9
        rw [he9] at V1
        have V := V1
        refine W.eq (g2 := F0 m 41 ls [.int (pek (sg tx n (rbl tx n q9)))]) rfl ?_
        refine lv_bipush (v := 58) hx hb d_Mo_key_41 (by decide) ?_
        refine lv_icmp_ne (tgt := 50) hx hb d_Mo_key_43 (by decide) (fun c5 => ?_) (fun c5 => absurd c5 (fun z => h58 ((pek_eq (k := 58) (by omega) (by omega) (by omega)).mp z)))
        refine lv_iconst (v := 0) hx hb d_Mo_key_50 (by decide) ?_
        refine lv_istore_n hx hb d_Mo_key_51 rfl hl (by decide) rfl (fun ls hl => ?_)
        have hl : lv_has ls 3 [(2, .int 0), (0, .ref a), (1, .int (nI dp))] := hl
        refine lv_aload_n hx hb d_Mo_key_52 rfl (lv_at hl 1 rfl) ?_
        refine lv_iload_n hx hb d_Mo_key_53 rfl (lv_at hl 0 rfl) ?_
        refine lv_if_eq (tgt := 66) hx hb d_Mo_key_54 (by decide) (fun c6 => ?_) (fun c6 => absurd (by decide) c6)
        refine lv_aload_n hx hb d_Mo_key_66 rfl (lv_at hl 1 rfl) ?_
        refine mo_getS (v := nI (rbl tx n q9)) C V X 21 (by decide) (by decide) (by first | rfl | exact hS21) f_Mo_179 rfl d_Mo_key_67 ?_
        refine mo_putS C V X 21 (by decide) (by decide) f_Mo_179 rfl rfl rfl d_Mo_key_70 (fun f1 H locs V1 X1 => ?_)
        clear V X
        have V := V1
        have X := X1
        clear V1 X1
        refine lv_iload_n hx hb d_Mo_key_73 rfl (lv_at hl 0 rfl) ?_
        refine gh_retz hAe C V hr (by first | rfl | exact gh_bi_nar _ | decide) hlocks d_Mo_key_74 (by first | decide | omega | (dsimp only; omega)) (by first | decide | omega | (dsimp only; omega)) ?_
        exact ⟨rfl, _, _, _, X, by rw [va_up_s], ky_E hdp g3 gO (fun k hk => by rw [va_up_n hk]; exact g5 k hk) (fun L2 hz => by cases hz) hnv⟩
