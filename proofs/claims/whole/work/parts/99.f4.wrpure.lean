/-! The model writes a value with a stack of levels: without a heap. RL S I: at the loop's head. -/
def wP (n : Nat) (S : Nat → Int32) (L : List Int32) (S2 : Nat → Int32) : Prop := S2 55 = nI (wr_l (S 56) (n, S 57) L).1 ∧ S2 57 = (wr_l (S 56) (n, S 57) L).2 ∧ ∀ k, k ≠ 54 → k ≠ 55 → k ≠ 57 → S2 k = S k
theorem wQ.P {n : Nat} {S S2 : Nat → Int32} {L : List Int32} (h : wQ n S L S2) {x : Int32} : wP n S L (va_up S2 54 x) := ⟨by rw [va_up_n (by decide)]; exact h.1, by rw [va_up_n (by decide)]; exact h.2.1, fun k h1 h2 h3 => by rw [va_up_n h1]; exact h.2.2 k h2 h3⟩
theorem wQ.P0 {n : Nat} {S S2 : Nat → Int32} {L : List Int32} (h : wQ n S L S2) : wP n S L S2 := ⟨h.1, h.2.1, fun k _ h2 h3 => h.2.2 k h2 h3⟩
theorem wP.at55 {n : Nat} {S S2 : Nat → Int32} {L : List Int32} (h : wP n S L S2) : S2 55 = nI (n + L.length) := by rw [h.1, wr_l_len]
theorem wP.tr {n : Nat} {S S1 S2 : Nat → Int32} {L M : List Int32} (h : wP n S L S1) (h2 : wP (n + L.length) S1 M S2) : wP n S (L ++ M) S2 := by
  have e : wr_l (S 56) (n, S 57) L = (n + L.length, S1 57) := by
    have h1 := wr_l_len (wt := S 56) (L := L) (st := (n, S 57))
    rw [h.2.1]
    exact Prod.ext h1 rfl
  refine ⟨?_, ?_, fun k h0 h1 h3 => (h2.2.2 k h0 h1 h3).trans (h.2.2 k h0 h1 h3)⟩
  · rw [h2.1, h.2.2 56 (by decide) (by decide) (by decide), wr_l_app, e]
  · rw [h2.2.1, h.2.2 56 (by decide) (by decide) (by decide), wr_l_app, e]
theorem wP.eq {n : Nat} {S S2 : Nat → Int32} {L M : List Int32} (h : wP n S L S2) (e : L = M) : wP n S M S2 := by rw [← e]; exact h
def wr_sp (X : vt) (k : Nat) : List Int32 := (if k = 0 then [] else [44]) ++ (if vt_k X = 6 then wr_t ((vt_q X).getD k []) ++ [58] else [])
def wr_op (X : vt) : Int32 := if vt_k X = 6 then 123 else 91
def wr_cl (X : vt) : Int32 := if vt_k X = 6 then 125 else 93
theorem wr_v_sc {d : Nat} {X : vt} (h : vt_k X < 5) : wr_v (d + 1) X = wr_v 1 X := by
  unfold wr_v
  rcases (show vt_k X = 0 ∨ vt_k X = 1 ∨ vt_k X = 2 ∨ vt_k X = 3 ∨ vt_k X = 4 by omega) with e | e | e | e | e <;> simp [e]
theorem wr_v_many {d : Nat} {X : vt} (h : 5 ≤ vt_k X) : wr_v (d + 1) X = [wr_op X] ++ wr_m (wr_v d) X (vt_c X) 0 ++ [wr_cl X] := by
  show (if vt_k X = 0 then _ else if vt_k X = 1 then _ else if vt_k X = 2 then _ else if vt_k X = 3 then _ else if vt_k X = 4 then _ else _) = _
  rw [if_neg (by omega), if_neg (by omega), if_neg (by omega), if_neg (by omega), if_neg (by omega)]
  rfl
/-- predicates of states that go through a turn of the loop -/
def wl_cl (J : mo_J) (b nv pb np : Nat) (RL : (Nat → Int32) → mo_I → Prop) : Prop :=
  (∀ (S : Nat → Int32) (I : mo_I) (lv o n : Nat) (X : vt), lv < 9 → S 54 = nI (lv + 1) → S 55 = nI n → I 52 lv = nI o → I 53 lv = nI (vt_c X) → mw I J b nv pb np o X → 5 ≤ vt_k X → (∀ S2 I2, wP n S [wr_cl X] S2 → S2 54 = nI lv → (∀ q, q ≠ 53 → I2 q = I q) → (∀ j, j ≠ lv → I2 53 j = I 53 j) → RL S2 I2) → RL S I) ∧
  (∀ (S : Nat → Int32) (I : mo_I) (lv o k n : Nat) (X : vt), lv < 9 → S 54 = nI (lv + 1) → S 55 = nI n → I 52 lv = nI o → I 53 lv = nI k → mw I J b nv pb np o X → 5 ≤ vt_k X → k < vt_c X → vt_k (vt_s X k) < 5 → (∀ S2 I2, wP n S (wr_sp X k ++ wr_v 1 (vt_s X k)) S2 → S2 54 = nI (lv + 1) → I2 53 lv = nI (k + 1) → (∀ q, q ≠ 53 → I2 q = I q) → (∀ j, j ≠ lv → I2 53 j = I 53 j) → RL S2 I2) → RL S I) ∧
  ∀ (S : Nat → Int32) (I : mo_I) (lv o k n : Nat) (X : vt), lv < 8 → S 54 = nI (lv + 1) → S 55 = nI n → I 52 lv = nI o → I 53 lv = nI k → mw I J b nv pb np o X → 5 ≤ vt_k X → k < vt_c X → 5 ≤ vt_k (vt_s X k) → (∀ S2 I2 oi, wP n S (wr_sp X k ++ [wr_op (vt_s X k)]) S2 → S2 54 = nI (lv + 2) → I2 53 lv = nI (k + 1) → I2 52 (lv + 1) = nI oi → I2 53 (lv + 1) = nI 0 → mw I2 J b nv pb np oi (vt_s X k) → (∀ q, q ≠ 52 → q ≠ 53 → I2 q = I q) → (∀ j, j ≤ lv → I2 52 j = I 52 j) → (∀ j, j < lv → I2 53 j = I 53 j) → RL S2 I2) → RL S I
theorem wl_all {J : mo_J} {b nv pb np : Nat} {RL : (Nat → Int32) → mo_I → Prop} (hcl : wl_cl J b nv pb np RL) (hp8 : np ≤ 8800) : ∀ (d : Nat) (X : vt) (o : Nat), 5 ≤ vt_k X → vt_h X ≤ d → ∀ (m k : Nat), k + m = vt_c X → ∀ (S : Nat → Int32) (I : mo_I) (lv n : Nat), lv + vt_h X ≤ 8 → S 54 = nI (lv + 1) → S 55 = nI n → I 52 lv = nI o → I 53 lv = nI k → mw I J b nv pb np o X → (∀ S2 I2, wP n S (wr_m (wr_v d) X m k ++ [wr_cl X]) S2 → S2 54 = nI lv → (∀ q, q ≠ 52 → q ≠ 53 → I2 q = I q) → (∀ j, j < lv → I2 52 j = I 52 j ∧ I2 53 j = I 53 j) → RL S2 I2) → RL S I := by
  intro d
  induction d with
  | zero =>
    intro X o h5 hh m k hkm S I lv n hlv h54 h55 h52 h53 hX hk
    have h0 : vt_c X = 0 := by
      cases hc : vt_c X with
      | zero => rfl
      | succ c =>
        have := ((vo_o.mp hX.2).2.2.2.2.2.2.2.2.2.2.2 0 (by omega)).1
        omega
    have hm : m = 0 := by omega
    have hk0 : k = 0 := by omega
    subst hm
    subst hk0
    exact hcl.1 S I lv o n X (by omega) h54 h55 h52 (by rw [h0]; exact h53) hX h5 (fun S2 I2 g1 g2 g3 g4 => hk S2 I2 g1 g2 (fun q _ h => g3 q h) (fun j hj => ⟨by rw [g3 52 (by decide)], g4 j (by omega)⟩))
  | succ d ih =>
    intro X o h5 hh m
    induction m with
    | zero =>
      intro k hkm S I lv n hlv h54 h55 h52 h53 hX hk
      have hk0 : k = vt_c X := by omega
      rw [hk0] at h53
      exact hcl.1 S I lv o n X (by
        by_cases hc : 0 < vt_c X
        · have := ((vo_o.mp hX.2).2.2.2.2.2.2.2.2.2.2.2 0 hc).1; omega
        · omega) h54 h55 h52 h53 hX h5 (fun S2 I2 g1 g2 g3 g4 => hk S2 I2 g1 g2 (fun q _ h => g3 q h) (fun j hj => ⟨by rw [g3 52 (by decide)], g4 j (by omega)⟩))
    | succ m im =>
      intro k hkm S I lv n hlv h54 h55 h52 h53 hX hk
      have hlt : k < vt_c X := by omega
      have hs := (vo_o.mp hX.2).2.2.2.2.2.2.2.2.2.2.2 k hlt
      have hsh := hs.1
      have eW : wr_m (wr_v (d + 1)) X (m + 1) k = wr_sp X k ++ wr_v (d + 1) (vt_s X k) ++ wr_m (wr_v (d + 1)) X m (k + 1) := rfl
      by_cases h4 : vt_k (vt_s X k) < 5
      · refine hcl.2.1 S I lv o k n X (by omega) h54 h55 h52 h53 hX h5 hlt h4 (fun S2 I2 g1 g2 g3 g4 g5 => ?_)
        have hma : ma I J I2 J b nv pb np := ma_other (fun q hq => g4 q (by omega))
        refine im (k + 1) (by omega) S2 I2 lv _ hlv g2 g1.at55 (by rw [g4 52 (by decide)]; exact h52) g3 (hX.keep hma (Nat.le_refl _) (Nat.le_refl _) hp8) (fun S3 I3 k1 k2 k3 k4 => ?_)
        refine hk S3 I3 ((g1.tr k1).eq ?_) k2 (fun q q1 q2 => (k3 q q1 q2).trans (g4 q q2)) (fun j hj => ⟨(k4 j hj).1.trans (by rw [g4 52 (by decide)]), (k4 j hj).2.trans (g5 j (by omega))⟩)
        rw [eW, wr_v_sc (d := d) h4]
        simp only [List.append_assoc]
      · have h4 : 5 ≤ vt_k (vt_s X k) := by omega
        refine hcl.2.2 S I lv o k n X (by omega) h54 h55 h52 h53 hX h5 hlt h4 (fun S2 I2 oi g1 g2 g3 g4 g5 g6 g7 g8 g9 => ?_)
        refine ih (vt_s X k) oi h4 (by omega) (vt_c (vt_s X k)) 0 (by omega) S2 I2 (lv + 1) _ (by omega) g2 g1.at55 g4 g5 g6 (fun S3 I3 k1 k2 k3 k4 => ?_)
        have hma : ma I J I3 J b nv pb np := ma_other (fun q hq => (k3 q (by omega) (by omega)).trans (g7 q (by omega) (by omega)))
        have g1k := g1.tr k1
        refine im (k + 1) (by omega) S3 I3 lv _ hlv k2 g1k.at55 (by rw [(k4 lv (by omega)).1, g8 lv (Nat.le_refl _)]; exact h52) (by rw [(k4 lv (by omega)).2]; exact g3) (hX.keep hma (Nat.le_refl _) (Nat.le_refl _) hp8) (fun S4 I4 l1 l2 l3 l4 => ?_)
        refine hk S4 I4 ((g1k.tr l1).eq ?_) l2 (fun q q1 q2 => (l3 q q1 q2).trans ((k3 q q1 q2).trans (g7 q q1 q2))) (fun j hj => ⟨(l4 j hj).1.trans ((k4 j (by omega)).1.trans (g8 j (by omega))), (l4 j hj).2.trans ((k4 j (by omega)).2.trans (g9 j hj))⟩)
        rw [eW, wr_v_many (d := d) h4]
        simp only [List.append_assoc]
