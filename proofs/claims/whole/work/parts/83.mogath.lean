/-! What the model gathers: items, keys, many. -/
def mg (S : Nat → Int32) (I : mo_I) (J : mo_J) (b0 nv pb np : Nat) (ks : List (List Int32)) (xs : List vt) : Prop := ∃ B K : Nat → Nat, S 16 = nI xs.length ∧ xs.length ≤ 32 ∧ ks.length ≤ xs.length ∧ (∀ j, j < xs.length → I 14 j = nI (B j) ∧ mw I J b0 nv pb np (B j) (xs.getD j (vt_0 0))) ∧ ∀ j, j < ks.length → I 15 j = nI (K j) ∧ mv_S I J b0 nv (K j) (ks.getD j []) ∧ lt_ok (ks.getD j [])
/-- only items, keys and what is no value's have changed -/
theorem ma_other {I I1 : mo_I} {J : mo_J} {b0 nv pb np : Nat} (h : ∀ k, (k = 1 ∨ k = 3 ∨ k = 4 ∨ k = 5 ∨ k = 9 ∨ k = 10) → I1 k = I k) : ma I J I1 J b0 nv pb np :=
  ⟨fun k v hk _ => by rw [h k (by omega)], fun _ _ _ _ => rfl, fun p _ _ => by rw [h 10 (by omega)]⟩
/-- a put without a limit -/
def vt_pu (s : List (List Int32) × List vt) (L : List Int32) (X : vt) : List (List Int32) × List vt := match vt_find s.1 L with
  | some j => (s.1, s.2.set j X)
  | none => (s.1 ++ [L], s.2 ++ [X])
def vt_pua (O : vt) : Nat → Nat → List (List Int32) × List vt → List (List Int32) × List vt
  | 0, _, s => s
  | n + 1, i, s => vt_pua O n (i + 1) (vt_pu s ((vt_q O).getD i []) (vt_s O i))
theorem vt_pu_len {s : List (List Int32) × List vt} {L : List Int32} {X : vt} : s.2.length ≤ (vt_pu s L X).2.length ∧ (vt_pu s L X).2.length ≤ s.2.length + 1 := by
  unfold vt_pu
  split
  · simp
  · simp
theorem vt_pu_eq {s : List (List Int32) × List vt} {L : List Int32} {X : vt} (h : s.1.length = s.2.length) : (vt_pu s L X).1.length = (vt_pu s L X).2.length := by
  unfold vt_pu
  split
  · simpa using h
  · simp [h]
theorem vt_put_pu {s : List (List Int32) × List vt} {L : List Int32} {X : vt} (hs : s.2.length ≤ 16) : vt_put s L X = if (vt_pu s L X).2.length ≤ 16 then some (vt_pu s L X) else none := by
  cases hf : vt_find s.1 L with
  | some j =>
    have h1 : vt_put s L X = some (s.1, s.2.set j X) := by unfold vt_put; rw [hf]
    have h2 : vt_pu s L X = (s.1, s.2.set j X) := by unfold vt_pu; rw [hf]
    rw [h1, h2, if_pos (by simpa using hs)]
  | none =>
    have h2 : vt_pu s L X = (s.1 ++ [L], s.2 ++ [X]) := by unfold vt_pu; rw [hf]
    by_cases h : s.2.length < 16
    · have h1 : vt_put s L X = some (s.1 ++ [L], s.2 ++ [X]) := by unfold vt_put; rw [hf]; simp only []; rw [if_pos h]
      rw [h1, h2, if_pos (by simp; omega)]
    · have h1 : vt_put s L X = none := by unfold vt_put; rw [hf]; simp only []; rw [if_neg h]
      rw [h1, h2, if_neg (by simp; omega)]
theorem vt_pua_len {O : vt} : ∀ {n i : Nat} {s : List (List Int32) × List vt}, s.2.length ≤ (vt_pua O n i s).2.length := by
  intro n
  induction n with
  | zero => intro i s; exact Nat.le_refl _
  | succ n ih => intro i s; exact Nat.le_trans (vt_pu_len (L := (vt_q O).getD i []) (X := vt_s O i)).1 ih
theorem vt_pa_pua {O : vt} : ∀ {n i : Nat} {s : List (List Int32) × List vt}, s.2.length ≤ 16 → vt_pa O n i s = if (vt_pua O n i s).2.length ≤ 16 then some (vt_pua O n i s) else none := by
  intro n
  induction n with
  | zero => intro i s hs; unfold vt_pa vt_pua; rw [if_pos hs]
  | succ n ih =>
    intro i s hs
    unfold vt_pa vt_pua
    rw [vt_put_pu hs]
    by_cases h : (vt_pu s ((vt_q O).getD i []) (vt_s O i)).2.length ≤ 16
    · rw [if_pos h]
      exact ih h
    · rw [if_neg h, if_neg]
      have := vt_pua_len (O := O) (n := n) (i := i + 1) (s := vt_pu s ((vt_q O).getD i []) (vt_s O i))
      omega
theorem mg.keep {S S1 : Nat → Int32} {I I1 : mo_I} {J J1 : mo_J} {b0 nv nv1 pb np np1 : Nat} {ks : List (List Int32)} {xs : List vt} (h : mg S I J b0 nv pb np ks xs) (hm : ma I J I1 J1 b0 nv pb np) (hn : nv ≤ nv1) (hp : np ≤ np1) (hp8 : np1 ≤ 8800) (hS : S1 16 = S 16) (h14 : I1 14 = I 14) (h15 : I1 15 = I 15) : mg S1 I1 J1 b0 nv1 pb np1 ks xs := by
  obtain ⟨B, K, h1, h2, h3, h4, h5⟩ := h
  exact ⟨B, K, hS.trans h1, h2, h3, fun j hj => ⟨by rw [h14]; exact (h4 j hj).1, (h4 j hj).2.keep hm hn hp hp8⟩, fun j hj => ⟨by rw [h15]; exact (h5 j hj).1, (h5 j hj).2.1.keep hm hn, (h5 j hj).2.2⟩⟩
/-- an item is added -/
theorem mg.add {S : Nat → Int32} {I : mo_I} {J : mo_J} {b0 nv pb np v : Nat} {ks : List (List Int32)} {xs : List vt} {X : vt} (h : mg S I J b0 nv pb np ks xs) (hl : xs.length < 32) (hv : mw I J b0 nv pb np v X) (hp8 : np ≤ 8800) : mg (va_up S 16 (nI (xs.length + 1))) (va_up I 14 (upd (I 14) xs.length (nI v))) J b0 nv pb np ks (xs ++ [X]) := by
  obtain ⟨B, K, h1, h2, h3, h4, h5⟩ := h
  have hm : ma I J (va_up I 14 (upd (I 14) xs.length (nI v))) J b0 nv pb np := ma_other (fun k hk => va_up_n (by omega))
  refine ⟨va_up B xs.length v, K, ?_, by simp; omega, by simp; omega, fun j hj => ?_, fun j hj => ⟨by rw [va_up_n (by omega)]; exact (h5 j hj).1, (h5 j hj).2.1.keep hm (Nat.le_refl _), (h5 j hj).2.2⟩⟩
  · rw [va_up_s, List.length_append]; rfl
  · rw [va_up_s]
    by_cases hjl : j = xs.length
    · subst hjl
      rw [va_up_s, getD_last]
      exact ⟨by simp [upd], hv.keep hm (Nat.le_refl _) (Nat.le_refl _) hp8⟩
    · have hj2 : j < xs.length := by simp at hj; omega
      rw [va_up_n hjl, getD_app hj2]
      exact ⟨by simp [upd, hjl]; exact (h4 j hj2).1, (h4 j hj2).2.keep hm (Nat.le_refl _) (Nat.le_refl _) hp8⟩
/-- a member is put -/
theorem mg.new {S : Nat → Int32} {I : mo_I} {J : mo_J} {b0 nv pb np v y : Nat} {ks : List (List Int32)} {xs : List vt} {X : vt} {L : List Int32} (h : mg S I J b0 nv pb np ks xs) (he : ks.length = xs.length) (hl : xs.length < 32) (hv : mw I J b0 nv pb np v X) (hy : mv_S I J b0 nv y L) (hL : lt_ok L) (hp8 : np ≤ 8800) : mg (va_up S 16 (nI (xs.length + 1))) (va_up (va_up I 15 (upd (I 15) xs.length (nI y))) 14 (upd ((va_up I 15 (upd (I 15) xs.length (nI y))) 14) xs.length (nI v))) J b0 nv pb np (ks ++ [L]) (xs ++ [X]) := by
  obtain ⟨B, K, h1, h2, h3, h4, h5⟩ := h
  have hm : ma I J (va_up (va_up I 15 (upd (I 15) xs.length (nI y))) 14 (upd ((va_up I 15 (upd (I 15) xs.length (nI y))) 14) xs.length (nI v))) J b0 nv pb np := ma_other (fun k hk => by rw [va_up_n (by omega), va_up_n (by omega)])
  refine ⟨va_up B xs.length v, va_up K xs.length y, ?_, by simp; omega, by simp; omega, fun j hj => ?_, fun j hj => ?_⟩
  · rw [va_up_s, List.length_append]; rfl
  · rw [va_up_s]
    by_cases hjl : j = xs.length
    · subst hjl
      rw [va_up_s, getD_last]
      exact ⟨by simp [upd], hv.keep hm (Nat.le_refl _) (Nat.le_refl _) hp8⟩
    · have hj2 : j < xs.length := by simp at hj; omega
      rw [va_up_n hjl, getD_app hj2]
      refine ⟨?_, (h4 j hj2).2.keep hm (Nat.le_refl _) (Nat.le_refl _) hp8⟩
      rw [va_up_n (by omega)]
      simp [upd, hjl]
      exact (h4 j hj2).1
  · rw [va_up_n (by omega), va_up_s]
    by_cases hjl : j = xs.length
    · subst hjl
      have hlast : (ks ++ [L]).getD xs.length [] = L := by rw [← he, getD_last]
      rw [va_up_s, hlast]
      exact ⟨by simp [upd], hy.keep hm (Nat.le_refl _), hL⟩
    · have hj2 : j < ks.length := by simp at hj; omega
      rw [va_up_n hjl, getD_app hj2]
      exact ⟨by simp [upd, hjl]; exact (h5 j hj2).1, (h5 j hj2).2.1.keep hm (Nat.le_refl _), (h5 j hj2).2.2⟩
/-- a member is put again -/
theorem mg.again {S : Nat → Int32} {I : mo_I} {J : mo_J} {b0 nv pb np v j0 : Nat} {ks : List (List Int32)} {xs : List vt} {X : vt} (h : mg S I J b0 nv pb np ks xs) (hj0 : j0 < xs.length) (hv : mw I J b0 nv pb np v X) (hp8 : np ≤ 8800) : mg S (va_up I 14 (upd (I 14) j0 (nI v))) J b0 nv pb np ks (xs.set j0 X) := by
  obtain ⟨B, K, h1, h2, h3, h4, h5⟩ := h
  have hm : ma I J (va_up I 14 (upd (I 14) j0 (nI v))) J b0 nv pb np := ma_other (fun k hk => va_up_n (by omega))
  refine ⟨va_up B j0 v, K, by rw [List.length_set]; exact h1, by simp; omega, by simp; omega, fun j hj => ?_, fun j hj => ⟨by rw [va_up_n (by omega)]; exact (h5 j hj).1, (h5 j hj).2.1.keep hm (Nat.le_refl _), (h5 j hj).2.2⟩⟩
  have hj2 : j < xs.length := by simpa using hj
  rw [va_up_s]
  by_cases hjl : j = j0
  · subst hjl
    rw [va_up_s, show (xs.set j X).getD j (vt_0 0) = X by simp [List.getD, hj2]]
    exact ⟨by simp [upd], hv.keep hm (Nat.le_refl _) (Nat.le_refl _) hp8⟩
  · rw [va_up_n hjl, show (xs.set j0 X).getD j (vt_0 0) = xs.getD j (vt_0 0) by simp [List.getD, List.getElem?_set_ne (Ne.symm hjl)]]
    exact ⟨by simp [upd, hjl]; exact (h4 j hj2).1, (h4 j hj2).2.keep hm (Nat.le_refl _) (Nat.le_refl _) hp8⟩
