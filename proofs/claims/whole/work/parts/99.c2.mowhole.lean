/-! The model's run without a heap: all values are put out. -/
/-- a value was given at the top: it is put out, and part 0 is asked again -/
def mt_v (S : Nat → Int32) (I : mo_I) (k u : Nat) (S2 : Nat → Int32) (I2 : mo_I) : Prop := (S2 45 = nI 1 ∧ S2 46 = 0 ∧ S2 51 = nI (k + 1) ∧ S2 49 = (if k + 1 = 16 then 3 else -1)) ∧ I2 50 = upd (I 50) k (nI u) ∧ I2 44 = upd (I 44) 0 0 ∧ (∀ j, j ≠ 45 → j ≠ 46 → j ≠ 49 → j ≠ 51 → S2 j = S j) ∧ ∀ j, j ≠ 44 → j ≠ 50 → I2 j = I j
/-- a predicate of states that goes through the top of the run's loop -/
def ms_tp (RW : (Nat → Int32) → mo_I → mo_J → Prop) : Prop := (∀ (S : Nat → Int32) (I : mo_I) (J : mo_J) (k u : Nat), S 49 = -1 → S 45 = nI 0 → S 46 = 1 → S 47 = nI u → S 51 = nI k → k < 16 → (∀ S2 I2, mt_v S I k u S2 I2 → RW S2 I2 J) → RW S I J) ∧ ∀ (S : Nat → Int32) (I : mo_I) (J : mo_J), S 49 = -1 → S 45 = nI 0 → (S 46 = 2 ∨ S 46 = 3) → RW (va_up S 49 (if S 46 = 2 then 0 else 1)) I J → RW S I J
/-- what was put out -/
def mout (I : mo_I) (J : mo_J) (b0 nv pb np : Nat) (xs : List vt) : Prop := ∀ j, j < xs.length → ∃ o, I 50 j = nI o ∧ mw I J b0 nv pb np o (xs.getD j (vt_0 0))
/-- how a run has ended: what was put out, the ending, the fuel that is left -/
def mrr (b0 pb : Nat) (S : Nat → Int32) (I : mo_I) (J : mo_J) (nv np : Nat) (r : List vt × Nat × Nat) (S2 : Nat → Int32) (I2 : mo_I) (J2 : mo_J) : Prop := (S2 49 = nI r.2.1 ∧ S2 48 = nI r.2.2 ∧ S2 51 = nI r.1.length ∧ r.1.length ≤ 16) ∧ (∃ nv2 np2, nv ≤ nv2 ∧ nv2 ≤ 759 ∧ np ≤ np2 ∧ np2 ≤ 8768 ∧ mout I2 J2 b0 nv2 pb np2 r.1) ∧ ma I J I2 J2 b0 nv pb np ∧ (∀ k, k < 11 ∨ (12 < k ∧ k ≠ 16 ∧ (k < 45 ∨ 51 < k)) → S2 k = S k) ∧ I2 33 = I 33 ∧ I2 34 = I 34 ∧ I2 19 = I 19 ∧ I2 29 = I 29
theorem mrr.tr {b0 pb : Nat} {S S1 S2 : Nat → Int32} {I I1 I2 : mo_I} {J J1 J2 : mo_J} {nv np nv1 np1 : Nat} {r : List vt × Nat × Nat} (h : mrr b0 pb S1 I1 J1 nv1 np1 r S2 I2 J2) (hn : nv ≤ nv1) (hp : np ≤ np1) (hm : ma I J I1 J1 b0 nv pb np) (hS : ∀ k, k < 11 ∨ (12 < k ∧ k ≠ 16 ∧ (k < 45 ∨ 51 < k)) → S1 k = S k) (h33 : I1 33 = I 33 ∧ I1 34 = I 34 ∧ I1 19 = I 19 ∧ I1 29 = I 29) : mrr b0 pb S I J nv np r S2 I2 J2 := by
  obtain ⟨a1, ⟨nv2, np2, b1, b2, b3, b4, b5⟩, a3, a4, a5, a6, a7, a8⟩ := h
  exact ⟨a1, ⟨nv2, np2, by omega, b2, by omega, b4, b5⟩, hm.tr a3 hn hp, fun k hk => (a4 k hk).trans (hS k hk), a5.trans h33.1, a6.trans h33.2.1, a7.trans h33.2.2.1, a8.trans h33.2.2.2⟩
theorem mout.keep {I I2 : mo_I} {J J2 : mo_J} {b0 nv pb np nv2 np2 : Nat} {xs : List vt} (h : mout I J b0 nv pb np xs) (h50 : ∀ j, j < xs.length → I2 50 j = I 50 j) (hm : ma I J I2 J2 b0 nv pb np) (hn : nv ≤ nv2) (hp : np ≤ np2) (hp8 : np2 ≤ 8800) : mout I2 J2 b0 nv2 pb np2 xs := by
  intro j hj
  obtain ⟨o, h1, h2⟩ := h j hj
  exact ⟨o, (h50 j hj).trans h1, h2.keep hm hn hp hp8⟩
theorem mrun_all {l : Launch} {E : gh_E} {a : Nat} {ad : Nat → Nat} {RW : (Nat → Int32) → mo_I → mo_J → Prop} (hcl : ms_cl l E a ad RW) (htp : ms_tp RW) {cb bg : Nat → Nat} {N b0 pb n q e B C : Nat} (hN : N ≤ 60) (hq : qn cb bg N q 0 e) (hn7 : q + 7 ≤ n) (hq13 : q ≤ 13) (hB : B ≤ 759) (hC : C ≤ 8768) : ∀ (m : Nat) {T : sr} {φ nv np : Nat} {S : Nat → Int32} {I : mo_I} {J : mo_J} {xs : List vt}, xs.length + (m + 1) = 16 → mz cb bg b0 pb S I J φ nv np → S 45 = nI 1 → I 44 0 = nI 0 → S 46 = 0 → S 51 = nI xs.length → mout I J b0 nv pb np xs → mk_H cb bg I J b0 nv pb np n 0 T φ B C → (nv + φ ≤ B ∧ np + 32 * φ ≤ C) → (∀ S2 I2 J2, mrr b0 pb S I J nv np (xs ++ (sr_run (m + 1) φ T).1, (sr_run (m + 1) φ T).2) S2 I2 J2 → RW S2 I2 J2) → RW S I J := by
  intro m
  induction m with
  | zero =>
    intro T φ nv np S I J xs hlen hz h45 hpt h46 h51 hxs hH hb hk
    refine mk_all hcl hN n S I J 0 q 0 e T φ nv np B C hq hn7 (by omega) hz h45 hpt h46 hH hb hB hC (fun S2 I2 J2 hP => ?_)
    obtain ⟨hF, hM, h3⟩ := hP
    have hS : ∀ k, k < 11 ∨ (12 < k ∧ k ≠ 16 ∧ (k < 45 ∨ 51 < k)) → S2 k = S k := fun k hk => hF.1 k (by omega)
    have hI : I2 33 = I 33 ∧ I2 34 = I 34 ∧ I2 19 = I 19 ∧ I2 29 = I 29 := ⟨hF.2.1.1, hF.2.1.2.1, hF.2.1.2.2.2.1, hF.2.1.2.2.2.2⟩
    have h51' : S2 51 = nI xs.length := (hF.1 51 (by omega)).trans h51
    rcases h3 with ⟨h1, h2, h3⟩ | ⟨nv2, np2, ⟨b1, b2, b3, b4, b5⟩, h45', hz2, h3⟩
    · refine hk S2 I2 J2 ?_
      rw [sr_run_poor h1]
      exact ⟨⟨h2, h3, by rw [List.append_nil]; exact h51', by rw [List.append_nil]; show xs.length ≤ 16; omega⟩, ⟨nv, np, Nat.le_refl _, by omega, Nat.le_refl _, by omega, by rw [List.append_nil]; exact hxs.keep (fun j _ => congrFun hF.2.1.2.2.1 j) hM (Nat.le_refl _) (Nat.le_refl _) (by omega)⟩, hM, hS, hI⟩
    · have hp2 : np2 ≤ 8800 := by omega
      have hxs2 : mout I2 J2 b0 nv2 pb np2 xs := hxs.keep (fun j _ => congrFun hF.2.1.2.2.1 j) hM b1 b2 hp2
      rcases h3 with ⟨d, rfl, e46⟩ | ⟨d, rfl, e46⟩ | ⟨d, x, R, u, rfl, e46, e47, hu, hR⟩
      · refine htp.2 S2 I2 J2 hz2.1.2.2.2 h45' (Or.inl e46) (hk _ _ _ ?_)
        rw [e46, if_pos rfl, sr_run_end (show d ≤ φ from b3)]
        exact ⟨⟨va_up_s, by rw [va_up_n (by decide)]; exact hz2.1.2.2.1, by rw [va_up_n (by decide), List.append_nil]; exact h51', by rw [List.append_nil]; show xs.length ≤ 16; omega⟩, ⟨nv2, np2, b1, by omega, b2, by omega, by rw [List.append_nil]; exact hxs2⟩, hM, fun k hk => (va_up_n (by omega)).trans (hS k hk), hI⟩
      · refine htp.2 S2 I2 J2 hz2.1.2.2.2 h45' (Or.inr e46) (hk _ _ _ ?_)
        rw [e46, if_neg (by decide), sr_run_fail (show d ≤ φ from b3)]
        exact ⟨⟨va_up_s, by rw [va_up_n (by decide)]; exact hz2.1.2.2.1, by rw [va_up_n (by decide), List.append_nil]; exact h51', by rw [List.append_nil]; show xs.length ≤ 16; omega⟩, ⟨nv2, np2, b1, by omega, b2, by omega, by rw [List.append_nil]; exact hxs2⟩, hM, fun k hk => (va_up_n (by omega)).trans (hS k hk), hI⟩
      · refine htp.1 S2 I2 J2 xs.length u hz2.1.2.2.2 h45' e46 e47 h51' (by omega) (fun S3 I3 h => hk _ _ _ ?_)
        obtain ⟨⟨t1, t2, t3, t4⟩, t5, t6, t7, t8⟩ := h
        have hM3 : ma I2 J2 I3 J2 b0 nv2 pb np2 := ma_other (fun k hk => t8 k (by omega) (by omega))
        rw [sr_run_cons (show d ≤ φ from b3)]
        have hl1 : (xs ++ [x]).length = xs.length + 1 := by rw [List.length_append]; rfl
        refine ⟨⟨?_, (t7 48 (by decide) (by decide) (by decide) (by decide)).trans hz2.1.2.2.1, ?_, ?_⟩, ⟨nv2, np2, b1, by omega, b2, by omega, ?_⟩, hM.tr hM3 b1 b2, fun k hk => (t7 k (by omega) (by omega) (by omega) (by omega)).trans (hS k hk), (t8 33 (by decide) (by decide)).trans hI.1, (t8 34 (by decide) (by decide)).trans hI.2.1, (t8 19 (by decide) (by decide)).trans hI.2.2.1, (t8 29 (by decide) (by decide)).trans hI.2.2.2⟩
        · rw [t4, if_pos (by omega)]; rfl
        · show S3 51 = nI (xs ++ [x]).length; rw [hl1]; exact t3
        · show (xs ++ [x]).length ≤ 16; omega
        · show mout I3 J2 b0 nv2 pb np2 (xs ++ [x])
          intro j hj
          rw [hl1] at hj
          rw [t5]
          by_cases ej : j = xs.length
          · subst ej
            refine ⟨u, by simp [upd], ?_⟩
            rw [List.getD_eq_getElem?_getD, List.getElem?_append_right (Nat.le_refl _), Nat.sub_self]
            exact hu.keep hM3 (Nat.le_refl _) (Nat.le_refl _) hp2
          · obtain ⟨o, o1, o2⟩ := hxs2 j (by omega)
            refine ⟨o, by simp only [upd]; rw [if_neg ej]; exact o1, ?_⟩
            rw [List.getD_eq_getElem?_getD, List.getElem?_append_left (by omega), ← List.getD_eq_getElem?_getD]
            exact o2.keep hM3 (Nat.le_refl _) (Nat.le_refl _) hp2
  | succ m ih =>
    intro T φ nv np S I J xs hlen hz h45 hpt h46 h51 hxs hH hb hk
    refine mk_all hcl hN n S I J 0 q 0 e T φ nv np B C hq hn7 (by omega) hz h45 hpt h46 hH hb hB hC (fun S2 I2 J2 hP => ?_)
    obtain ⟨hF, hM, h3⟩ := hP
    have hS : ∀ k, k < 11 ∨ (12 < k ∧ k ≠ 16 ∧ (k < 45 ∨ 51 < k)) → S2 k = S k := fun k hk => hF.1 k (by omega)
    have hI : I2 33 = I 33 ∧ I2 34 = I 34 ∧ I2 19 = I 19 ∧ I2 29 = I 29 := ⟨hF.2.1.1, hF.2.1.2.1, hF.2.1.2.2.2.1, hF.2.1.2.2.2.2⟩
    have h51' : S2 51 = nI xs.length := (hF.1 51 (by omega)).trans h51
    rcases h3 with ⟨h1, h2, h3⟩ | ⟨nv2, np2, ⟨b1, b2, b3, b4, b5⟩, h45', hz2, h3⟩
    · refine hk S2 I2 J2 ?_
      rw [sr_run_poor h1]
      exact ⟨⟨h2, h3, by rw [List.append_nil]; exact h51', by rw [List.append_nil]; show xs.length ≤ 16; omega⟩, ⟨nv, np, Nat.le_refl _, by omega, Nat.le_refl _, by omega, by rw [List.append_nil]; exact hxs.keep (fun j _ => congrFun hF.2.1.2.2.1 j) hM (Nat.le_refl _) (Nat.le_refl _) (by omega)⟩, hM, hS, hI⟩
    · have hp2 : np2 ≤ 8800 := by omega
      have hxs2 : mout I2 J2 b0 nv2 pb np2 xs := hxs.keep (fun j _ => congrFun hF.2.1.2.2.1 j) hM b1 b2 hp2
      rcases h3 with ⟨d, rfl, e46⟩ | ⟨d, rfl, e46⟩ | ⟨d, x, R, u, rfl, e46, e47, hu, hR⟩
      · refine htp.2 S2 I2 J2 hz2.1.2.2.2 h45' (Or.inl e46) (hk _ _ _ ?_)
        rw [e46, if_pos rfl, sr_run_end (show d ≤ φ from b3)]
        exact ⟨⟨va_up_s, by rw [va_up_n (by decide)]; exact hz2.1.2.2.1, by rw [va_up_n (by decide), List.append_nil]; exact h51', by rw [List.append_nil]; show xs.length ≤ 16; omega⟩, ⟨nv2, np2, b1, by omega, b2, by omega, by rw [List.append_nil]; exact hxs2⟩, hM, fun k hk => (va_up_n (by omega)).trans (hS k hk), hI⟩
      · refine htp.2 S2 I2 J2 hz2.1.2.2.2 h45' (Or.inr e46) (hk _ _ _ ?_)
        rw [e46, if_neg (by decide), sr_run_fail (show d ≤ φ from b3)]
        exact ⟨⟨va_up_s, by rw [va_up_n (by decide)]; exact hz2.1.2.2.1, by rw [va_up_n (by decide), List.append_nil]; exact h51', by rw [List.append_nil]; show xs.length ≤ 16; omega⟩, ⟨nv2, np2, b1, by omega, b2, by omega, by rw [List.append_nil]; exact hxs2⟩, hM, fun k hk => (va_up_n (by omega)).trans (hS k hk), hI⟩
      · refine htp.1 S2 I2 J2 xs.length u hz2.1.2.2.2 h45' e46 e47 h51' (by omega) (fun S3 I3 h => ?_)
        obtain ⟨⟨t1, t2, t3, t4⟩, t5, t6, t7, t8⟩ := h
        have hM3 : ma I2 J2 I3 J2 b0 nv2 pb np2 := ma_other (fun k hk => t8 k (by omega) (by omega))
        have hl1 : (xs ++ [x]).length = xs.length + 1 := by rw [List.length_append]; rfl
        have hz3 : mz cb bg b0 pb S3 I3 J2 (φ - sr_c (sr_cons d x R)) nv2 np2 := by
          obtain ⟨⟨z1, z2, z3, z4⟩, zb, zc, z33, z34⟩ := hz2
          exact ⟨⟨(t7 11 (by decide) (by decide) (by decide) (by decide)).trans z1, (t7 12 (by decide) (by decide) (by decide) (by decide)).trans z2, (t7 48 (by decide) (by decide) (by decide) (by decide)).trans z3, by rw [t4, if_neg (by omega)]⟩, zb, zc.keep hM3 (Nat.le_refl _) (Nat.le_refl _) hp2, fun j hj => by rw [t8 33 (by decide) (by decide)]; exact z33 j hj, fun j hj => by rw [t8 34 (by decide) (by decide)]; exact z34 j hj⟩
        refine ih (xs := xs ++ [x]) (T := R) (by omega) hz3 t1 (by rw [t6]; simp [upd]; rfl) t2 (by rw [hl1]; exact t3) ?_ (Or.inr (msh.keep hM3 (Nat.le_refl _) (Nat.le_refl _) hp2 hR hq ⟨fun k h1 h2 j _ _ => congrFun (t8 k (by omega) (by omega)) j, fun k h1 h2 j _ _ => congrFun (t8 k (by omega) (by omega)) j⟩)) ⟨b4, b5⟩ (fun S4 I4 J4 h4 => hk S4 I4 J4 ?_)
        · intro j hj
          rw [hl1] at hj
          rw [t5]
          by_cases ej : j = xs.length
          · subst ej
            refine ⟨u, by simp [upd], ?_⟩
            rw [List.getD_eq_getElem?_getD, List.getElem?_append_right (Nat.le_refl _), Nat.sub_self]
            exact hu.keep hM3 (Nat.le_refl _) (Nat.le_refl _) hp2
          · obtain ⟨o, o1, o2⟩ := hxs2 j (by omega)
            refine ⟨o, by simp only [upd]; rw [if_neg ej]; exact o1, ?_⟩
            rw [List.getD_eq_getElem?_getD, List.getElem?_append_left (by omega), ← List.getD_eq_getElem?_getD]
            exact o2.keep hM3 (Nat.le_refl _) (Nat.le_refl _) hp2
        · rw [sr_run_cons (show d ≤ φ from b3)]
          have e1 : xs ++ (x :: (sr_run (m + 1) (φ - d) R).1) = xs ++ [x] ++ (sr_run (m + 1) (φ - d) R).1 := by rw [List.append_assoc]; rfl
          show mrr b0 pb S I J nv np (xs ++ (x :: (sr_run (m + 1) (φ - d) R).1), (sr_run (m + 1) (φ - d) R).2) S4 I4 J4
          rw [e1]
          exact h4.tr b1 b2 (hM.tr hM3 b1 b2) (fun k hk => (t7 k (by omega) (by omega) (by omega) (by omega)).trans (hS k hk)) ⟨(t8 33 (by decide) (by decide)).trans hI.1, (t8 34 (by decide) (by decide)).trans hI.2.1, (t8 19 (by decide) (by decide)).trans hI.2.2.1, (t8 29 (by decide) (by decide)).trans hI.2.2.2⟩
