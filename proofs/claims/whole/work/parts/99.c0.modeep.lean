/-! deep of the model: the stack. -/
theorem mb_4 {cb bg : Nat → Nat} {b0 nv pb np n c : Nat} {I : mo_I} {J : mo_J} {K : Nat → sr → Prop} {X Y : vt} (hk : cb c = 4) (T : sr) : mb cb bg K I J b0 nv pb np n c T X Y ↔ I 35 c = 1 ∧ ∃ (m : Nat) (Vx Ax : Nat → Nat) (DV : Nat → vt), I 40 c = nI m ∧ m ≤ 8 ∧ (∀ j, j < m → I 42 (9 * c + j) = nI (Vx j) ∧ mw I J b0 nv pb np (Vx j) (DV j) ∧ 5 ≤ vt_k (DV j) ∧ I 43 (9 * c + j) = nI (Ax j) ∧ Ax j ≤ vt_c (DV j) ∧ vt_h (DV j) + j ≤ 7) ∧ T = ds cb bg c Y Ax DV n m := by
  unfold mb; rw [if_neg (by omega), if_pos hk]
theorem sr_seq_end0 {T : sr} : sr_seq T (sr_end 0) = T := by
  obtain ⟨L, t⟩ := T
  show sr_seqL L t (sr_end 0) = (L, t)
  induction L with
  | nil =>
    obtain ⟨d, b⟩ := t
    cases b <;> rfl
  | cons a L ih =>
    show (a :: (sr_seqL L t (sr_end 0)).1, (sr_seqL L t (sr_end 0)).2) = _
    rw [ih]
theorem sr_seq_assoc {T U V : sr} : sr_seq (sr_seq T U) V = sr_seq T (sr_seq U V) := by
  obtain ⟨L, t⟩ := T
  induction L with
  | nil =>
    obtain ⟨d, b⟩ := t
    cases b with
    | false => rfl
    | true =>
      show sr_seq (sr_add d U) V = sr_add d (sr_seq U V)
      rw [sr_seq_add]
  | cons a L ih =>
    show sr_cons a.1 a.2 (sr_seq (sr_seq (L, t) U) V) = sr_cons a.1 a.2 (sr_seq (L, t) (sr_seq U V))
    rw [ih]
theorem ds_congr {cb bg : Nat → Nat} {c n : Nat} {Y : vt} {A A' : Nat → Nat} {DV DV' : Nat → vt} : ∀ {m : Nat}, (∀ j, j < m → A' j = A j ∧ DV' j = DV j) → ds cb bg c Y A' DV' n m = ds cb bg c Y A DV n m := by
  intro m
  induction m with
  | zero => intro _; rfl
  | succ m ih =>
    intro h
    show sr_seq (sr_its _ (DV' m) (vt_c (DV' m) - A' m) (A' m)) (ds cb bg c Y A' DV' n m) = sr_seq (sr_its _ (DV m) (vt_c (DV m) - A m) (A m)) (ds cb bg c Y A DV n m)
    rw [ih (fun j hj => h j (by omega)), (h m (by omega)).1, (h m (by omega)).2]
theorem ds_pop {cb bg : Nat → Nat} {c n : Nat} {Y : vt} {A : Nat → Nat} {DV : Nat → vt} : ∀ {m : Nat}, ds cb bg c Y A DV n m = ds cb bg c Y A DV n (dpop A (fun j => vt_c (DV j)) m) := by
  intro m
  induction m with
  | zero => rfl
  | succ m ih =>
    unfold dpop
    split
    · rename_i h
      have h : A m = vt_c (DV m) := h
      rw [← ih]
      show sr_seq (sr_its _ (DV m) (vt_c (DV m) - A m) (A m)) (ds cb bg c Y A DV n m) = _
      rw [h, Nat.sub_self]
      show sr_add 0 (ds cb bg c Y A DV n m) = _
      rw [sr_add_0]
    · rfl
/-- the top of the stack gives its next item -/
theorem ds_next {cb bg : Nat → Nat} {c n m : Nat} {Y : vt} {A : Nat → Nat} {DV : Nat → vt} (hk : cb c = 4) (h : A m < vt_c (DV m)) (hn : m < n) : ds cb bg c Y A DV n (m + 1) = sr_cons 1 (vt_s (DV m) (A m)) (sr_seq (sr_its (fun Z => sr_D cb bg (n - (m + 1)) c Z Y) (vt_s (DV m) (A m)) (vt_c (vt_s (DV m) (A m))) 0) (sr_seq (sr_its (fun Z => sr_D cb bg (n - m) c Z Y) (DV m) (vt_c (DV m) - (A m + 1)) (A m + 1)) (ds cb bg c Y A DV n m))) := by
  show sr_seq (sr_its (fun Z => sr_D cb bg (n - m) c Z Y) (DV m) (vt_c (DV m) - A m) (A m)) (ds cb bg c Y A DV n m) = _
  rw [show vt_c (DV m) - A m = (vt_c (DV m) - (A m + 1)) + 1 by omega]
  show sr_seq (sr_seq (sr_D cb bg (n - m) c (vt_s (DV m) (A m)) Y) (sr_its (fun Z => sr_D cb bg (n - m) c Z Y) (DV m) (vt_c (DV m) - (A m + 1)) (A m + 1))) (ds cb bg c Y A DV n m) = _
  rw [sr_seq_assoc]
  have e1 : sr_D cb bg (n - m) c (vt_s (DV m) (A m)) Y = sr_cons 1 (vt_s (DV m) (A m)) (sr_its (fun Z => sr_D cb bg (n - (m + 1)) c Z Y) (vt_s (DV m) (A m)) (vt_c (vt_s (DV m) (A m))) 0) := by
    show sr_add 1 (sr_B cb bg (n - m) c (vt_s (DV m) (A m)) Y) = _
    rw [show n - m = (n - (m + 1)) + 1 by omega, sr_B_o]
    unfold sr_part
    rw [if_neg (by omega), if_pos hk]
    rfl
  rw [e1]
  rfl
section
variable {l : Launch} {E : gh_E} {a : Nat} {ad : Nat → Nat} {RW : (Nat → Int32) → mo_I → mo_J → Prop} {cb bg : Nat → Nat} {N b0 pb n c e w B C q φ nv np : Nat} {T : sr} {S : Nat → Int32} {I : mo_I} {J : mo_J}
theorem s_4 (hcl : ms_cl l E a ad RW) (hN : N ≤ 60) (hq : qn cb bg N (q + 1) c e) (hw : w < 13) (hn7 : 7 ≤ n) (hn : mn cb bg b0 pb B C w c S I J φ nv np) (hk : cb c = 4) (hH : mk_H cb bg I J b0 nv pb np (n + 1) c T φ B C) (hG : mk_G RW cb bg b0 pb (n + 1) c e T φ w B C nv np S I J) : RW S I J := by
  obtain ⟨⟨q1, q2, -⟩, -⟩ := qn_o.mp hq
  have hnh : ∀ {v X}, mw I J b0 nv pb np v X → vt_hi X = false → vt_c X = 0 := by
    intro v X h hh
    refine (vo_o.mp h.2).2.2.2.2.2.1 ?_
    have h6 := (vo_o.mp h.2).1
    unfold vt_hi at hh
    have h5 : ¬ vt_k X = 5 := fun z => by rw [z] at hh; exact absurd hh (by decide)
    have h6' : ¬ vt_k X = 6 := fun z => by rw [z] at hh; exact absurd hh (by decide)
    omega
  rcases hH with ⟨h35, ⟨X, Y, ⟨v, hit, hO⟩, hy, hT⟩, hB⟩ | hS
  · have hx : mx I J b0 nv pb np 36 c X := ⟨v, hit, hO⟩
    have hT : T = sr_cons 0 X (sr_its (fun Z => sr_D cb bg n c Z Y) X (vt_c X) 0) := by
      rw [hT, sr_B_o]; unfold sr_part
      rw [if_neg (by omega), if_pos hk]
    subst hT
    cases hhi : vt_hi X with
    | true =>
      refine t_deep_0h hcl S I J w c φ b0 nv pb np v X hn.1.1.2.2.2 hn.2.2.1 (hn.k33 (by omega) hk) hn.2.1 (by omega) (by omega) h35 hit hO hhi (fun S2 I2 h => ?_)
      obtain ⟨h1, ⟨h42, h43⟩, h2⟩ := h
      refine hG.vals hn h1 h2 q1 hO (msh_mk h1 hx hy rfl rfl hn.p8 ((mb_4 hk _).mpr ⟨h1.at 35 (by decide) (by decide), 1, fun _ => v, fun _ => 0, fun _ => X, h1.at 40 (by decide) (by decide), by decide, fun j hj => ?_, ?_⟩))
      · have : j = 0 := by omega
        subst this
        have hh := (vo_o.mp hO.2).2.2.2.2.2.2.2.2.1.1
        exact ⟨by rw [h42]; simp [upd], hO.keep h1.ma (Nat.le_refl _) (Nat.le_refl _) hn.p8, vt_hi5 hhi, by rw [h43]; simp only [upd]; rw [if_pos (Nat.add_zero _)]; rfl, Nat.zero_le _, by omega⟩
      · exact sr_seq_end0.symm
    | false =>
      have h0 := hnh hO hhi
      refine t_deep_0n hcl S I J w c φ b0 nv pb np v X hn.1.1.2.2.2 hn.2.2.1 (hn.k33 (by omega) hk) hn.2.1 (by omega) (by omega) h35 hit hO hhi (fun S2 I2 h => ?_)
      obtain ⟨h1, -, h2⟩ := h
      rw [h0] at hG
      exact hG.vals hn h1 h2 q1 hO (msh_mk h1 hx hy rfl rfl hn.p8 ((mb_4 hk _).mpr ⟨h1.at 35 (by decide) (by decide), 0, fun _ => 0, fun _ => 0, fun _ => X, h1.at 40 (by decide) (by decide), by decide, fun j hj => absurd hj (Nat.not_lt_zero j), rfl⟩))
  · obtain ⟨X, Y, hx, hy, hb⟩ := msh_o.mp hS
    obtain ⟨h35, m, Vx, Ax, DV, h40, hm8, hV, hT⟩ := (mb_4 hk T).mp hb
    rw [ds_pop] at hT
    have hV2 : ∀ j, j < m → I 42 (9 * c + j) = nI (Vx j) ∧ mw I J b0 nv pb np (Vx j) (DV j) ∧ 5 ≤ vt_k (DV j) ∧ I 43 (9 * c + j) = nI (Ax j) ∧ Ax j ≤ vt_c (DV j) := fun j hj => ⟨(hV j hj).1, (hV j hj).2.1, (hV j hj).2.2.1, (hV j hj).2.2.2.1, (hV j hj).2.2.2.2.1⟩
    have hle := dpop_le (A := Ax) (C := fun j => vt_c (DV j)) (n := m)
    cases hd : dpop Ax (fun j => vt_c (DV j)) m with
    | zero =>
      rw [hd] at hT
      subst hT
      exact t_deep_1e hcl S I J w c φ b0 nv pb np m Vx Ax DV _ hn.1.1.2.2.2 hn.2.2.1 (hn.k33 (by omega) hk) hn.2.1 (by omega) (by omega) h35 rfl h40 hm8 hV2 hn.p8 hd (fun S2 I2 h => hG.ends hn h.1 h.2 q1)
    | succ m9 =>
      rw [hd] at hT hle
      obtain ⟨v1, v2, v3, v4, v5, v6⟩ := hV m9 (by omega)
      have hne := dpop_ne hd
      have hne : Ax m9 ≠ vt_c (DV m9) := hne
      have hlt : Ax m9 < vt_c (DV m9) := by omega
      have hsub := (vo_o.mp v2.2).2.2.2.2.2.2.2.2.2.2.2 (Ax m9) hlt
      have hsh := hsub.1
      rw [ds_next hk hlt (by omega)] at hT
      -- the turn gave the item
      have fin : ∀ {S2 : Nat → Int32} {I2 : mo_I} {C' : Nat → Int32} {b m2 : Nat} {R : sr}, T = sr_cons 1 (vt_s (DV m9) (Ax m9)) R → 0 < φ → mct c w (fun _ => False) C' S I S2 I2 → mw I J b0 nv pb np b (vt_s (DV m9) (Ax m9)) → oc_t w 1 (nI b) (va_up S 48 (nI (φ - 1))) S2 → msh cb bg I2 J b0 nv pb np (n + 1) c R → RW S2 I2 J := by
        intro S2 I2 C' b m2 R hTR hφ h1 hb ho hR
        have hb1 := hn.2.2.2.1
        obtain ⟨o1, o2, o3, o4, o5⟩ := ho
        rw [va_up_s] at o4
        rw [va_up_n (by decide)] at o5
        have hc1 : sr_c T = 1 := by rw [hTR]; rfl
        refine hG S2 I2 J ⟨h1.fr2 q1 (fun _ z => z.elim), h1.ma, Or.inr ⟨nv, np, ⟨Nat.le_refl _, Nat.le_refl _, by omega, by omega, by omega⟩, o1, ?_, Or.inr (Or.inr ⟨1, _, R, b, hTR, o2, o3, hb.keep h1.ma (Nat.le_refl _) (Nat.le_refl _) hn.p8, hR⟩)⟩⟩
        rw [hc1]
        exact h1.mz hn.1 o4 (o5.trans hn.1.1.2.2.2) (by omega) hn.p8
      have stv : ∀ {S2 : Nat → Int32} {I2 : mo_I} {C' : Nat → Int32}, φ = 0 ∧ S2 49 = 2 ∧ S2 48 = S 48 ∧ mct c w (fun _ => False) C' S I S2 I2 → RW S2 I2 J := by
        intro S2 I2 C' h
        exact hG.starves hn h.2.2.2 h.2.1 h.2.2.1 h.1 (by rw [hT]; exact Nat.one_pos) q1 (fun _ z => z.elim)
      cases hhi : vt_hi (vt_s (DV m9) (Ax m9)) with
      | true =>
        refine t_deep_1h hcl S I J w c φ b0 nv pb np m Vx Ax DV _ m9 hn.1.1.2.2.2 hn.2.2.1 (hn.k33 (by omega) hk) hn.2.1 (by omega) (by omega) hn.1.1.2.2.1 hn.1.2.1.1 h35 rfl h40 hm8 hV2 hn.p8 hd hhi (fun S2 I2 h => ?_)
        rcases h with h | ⟨hφ, h1, b, ⟨h42, h43⟩, hb, ho⟩
        · exact stv h
        · refine fin (m2 := 0) hT hφ h1 hb ho (msh_mk h1 hx hy rfl rfl hn.p8 ((mb_4 hk _).mpr ⟨h1.at 35 (by decide) (by decide), m9 + 1 + 1, fun j => if j = m9 + 1 then b else Vx j, fun j => if j = m9 + 1 then 0 else if j = m9 then Ax m9 + 1 else Ax j, fun j => if j = m9 + 1 then vt_s (DV m9) (Ax m9) else DV j, h1.at 40 (by decide) (by decide), by omega, fun j hj => ?_, ?_⟩))
          · rw [h42, h43]
            by_cases e1 : j = m9 + 1
            · subst e1
              simp only [upd, if_pos]
              exact ⟨trivial, hb.keep h1.ma (Nat.le_refl _) (Nat.le_refl _) hn.p8, vt_hi5 hhi, rfl, Nat.zero_le _, by omega⟩
            · by_cases e2 : j = m9
              · subst e2
                have e3 : ¬ 9 * c + j = 9 * c + (j + 1) := by omega
                simp only [upd, e3, e1, if_false, if_true]
                exact ⟨v1, v2.keep h1.ma (Nat.le_refl _) (Nat.le_refl _) hn.p8, v3, trivial, hlt, v6⟩
              · obtain ⟨w1, w2, w3, w4, w5, w6⟩ := hV j (by omega)
                have e3 : ¬ 9 * c + j = 9 * c + (m9 + 1) := by omega
                have e4 : ¬ 9 * c + j = 9 * c + m9 := by omega
                simp only [upd, e3, e4, e1, e2, if_false]
                exact ⟨w1, w2.keep h1.ma (Nat.le_refl _) (Nat.le_refl _) hn.p8, w3, w4, w5, w6⟩
          · show _ = sr_seq (sr_its _ _ _ _) (sr_seq (sr_its _ _ _ _) (ds cb bg c Y _ _ n m9))
            have hcg : ds cb bg c Y (fun j => if j = m9 + 1 then 0 else if j = m9 then Ax m9 + 1 else Ax j) (fun j => if j = m9 + 1 then vt_s (DV m9) (Ax m9) else DV j) n m9 = ds cb bg c Y Ax DV n m9 := ds_congr (fun j hj => ⟨by show (if j = m9 + 1 then 0 else if j = m9 then Ax m9 + 1 else Ax j) = _; rw [if_neg (by omega), if_neg (by omega)], by show (if j = m9 + 1 then _ else DV j) = _; rw [if_neg (by omega)]⟩)
            rw [hcg]
            simp only [if_true, if_neg (show ¬ m9 = m9 + 1 by omega), Nat.sub_zero]
      | false =>
        have h0 := (vo_o.mp hsub.2).2.2.2.2.2.1 (by
          have h6 := (vo_o.mp hsub.2).1
          unfold vt_hi at hhi
          have h5 : ¬ vt_k (vt_s (DV m9) (Ax m9)) = 5 := fun z => by rw [z] at hhi; exact absurd hhi (by decide)
          have h6' : ¬ vt_k (vt_s (DV m9) (Ax m9)) = 6 := fun z => by rw [z] at hhi; exact absurd hhi (by decide)
          omega)
        refine t_deep_1n hcl S I J w c φ b0 nv pb np m Vx Ax DV _ m9 hn.1.1.2.2.2 hn.2.2.1 (hn.k33 (by omega) hk) hn.2.1 (by omega) (by omega) hn.1.1.2.2.1 hn.1.2.1.1 h35 rfl h40 hm8 hV2 hn.p8 hd hhi (fun S2 I2 h => ?_)
        rcases h with h | ⟨hφ, h1, b, ⟨h42, h43⟩, hb, ho⟩
        · exact stv h
        · refine fin (m2 := 0) hT hφ h1 hb ho (msh_mk h1 hx hy rfl rfl hn.p8 ((mb_4 hk _).mpr ⟨h1.at 35 (by decide) (by decide), m9 + 1, Vx, fun j => if j = m9 then Ax m9 + 1 else Ax j, DV, h1.at 40 (by decide) (by decide), by omega, fun j hj => ?_, ?_⟩))
          · rw [h42, h43]
            obtain ⟨w1, w2, w3, w4, w5, w6⟩ := hV j (by omega)
            by_cases e2 : j = m9
            · subst e2
              simp only [upd, if_pos]
              exact ⟨w1, w2.keep h1.ma (Nat.le_refl _) (Nat.le_refl _) hn.p8, w3, trivial, hlt, w6⟩
            · simp only [upd]
              rw [if_neg (by omega), if_neg e2]
              exact ⟨w1, w2.keep h1.ma (Nat.le_refl _) (Nat.le_refl _) hn.p8, w3, w4, w5, w6⟩
          · rw [h0]
            show sr_add 0 _ = sr_seq (sr_its _ _ _ _) (ds cb bg c Y _ _ n m9)
            have hcg : ds cb bg c Y (fun j => if j = m9 then Ax m9 + 1 else Ax j) DV n m9 = ds cb bg c Y Ax DV n m9 := ds_congr (fun j hj => ⟨by show (if j = m9 then Ax m9 + 1 else Ax j) = _; rw [if_neg (by omega)], rfl⟩)
            rw [sr_add_0, hcg]
            simp only [if_true]
end
