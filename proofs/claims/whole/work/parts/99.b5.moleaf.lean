/-! The parts of the model that have no parts: what asking them leads to. -/
theorem msh_mk {cb bg : Nat → Nat} {b0 nv pb np n c w : Nat} {D : Nat → Prop} {C' : Nat → Int32} {S S2 : Nat → Int32} {I I2 : mo_I} {J : mo_J} {X Y : vt} {T : sr} (hm : mct c w D C' S I S2 I2) (hx : mx I J b0 nv pb np 36 c X) (hy : mx I J b0 nv pb np 37 c Y) (h36 : C' 36 = I 36 c) (h37 : C' 37 = I 37 c) (hp8 : np ≤ 8800) (hb : mb cb bg (msh cb bg I2 J b0 nv pb np n) I2 J b0 nv pb np n c T X Y) : msh cb bg I2 J b0 nv pb np (n + 1) c T :=
  ⟨X, Y, hx.keep ((hm.2.2.2.2 36 (by decide) (by decide)).2.trans h36) hm.ma (Nat.le_refl _) (Nat.le_refl _) hp8, hy.keep ((hm.2.2.2.2 37 (by decide) (by decide)).2.trans h37) hm.ma (Nat.le_refl _) (Nat.le_refl _) hp8, hb⟩
theorem mct.at {c w : Nat} {D : Nat → Prop} {C : Nat → Int32} {S S2 : Nat → Int32} {I I2 : mo_I} (h : mct c w D C S I S2 I2) (k : Nat) (h1 : 35 ≤ k) (h2 : k ≤ 40) : I2 k c = C k := (h.2.2.2.2 k h1 h2).2
theorem mn.k33 {cb bg : Nat → Nat} {b0 pb B C w c : Nat} {S : Nat → Int32} {I : mo_I} {J : mo_J} {φ nv np : Nat} (h : mn cb bg b0 pb B C w c S I J φ nv np) (hc : c < 60) {k : Nat} (hk : cb c = k) : I 33 c = nI k := by rw [← hk]; exact h.1.2.2.2.1 c hc
theorem mn.k34 {cb bg : Nat → Nat} {b0 pb B C w c : Nat} {S : Nat → Int32} {I : mo_I} {J : mo_J} {φ nv np : Nat} (h : mn cb bg b0 pb B C w c S I J φ nv np) (hc : c < 60) (i : Nat) (hi : i < 3) : I 34 (3 * c + i) = nI (bg (c * 3 + i)) := by rw [Nat.mul_comm 3 c]; exact h.1.2.2.2.2 (c * 3 + i) (by omega)
theorem mb_leaf {cb bg : Nat → Nat} {K : Nat → sr → Prop} {I : mo_I} {J : mo_J} {b0 nv pb np n c : Nat} {X Y : vt} (hk : cb c = 0 ∨ cb c = 1 ∨ cb c = 2 ∨ cb c = 5 ∨ cb c = 6 ∨ cb c = 7 ∨ cb c = 15 ∨ cb c = 17 ∨ cb c = 18 ∨ cb c = 19 ∨ cb c = 20 ∨ cb c = 21 ∨ cb c = 12) (T : sr) : mb cb bg K I J b0 nv pb np n c T X Y ↔ I 35 c = 1 ∧ T = sr_end 0 := by
  unfold mb
  rw [if_neg (by omega), if_neg (by omega), if_neg (by omega), if_neg (by omega), if_neg (by omega), if_neg (by omega), if_neg (by omega), if_neg (by omega)]
theorem sr_B_leaf {cb bg : Nat → Nat} {n c : Nat} {X Y : vt} (hk : cb c = 0 ∨ cb c = 1 ∨ cb c = 2 ∨ cb c = 5 ∨ cb c = 6 ∨ cb c = 7 ∨ cb c = 15 ∨ cb c = 18 ∨ cb c = 19 ∨ cb c = 20 ∨ cb c = 21) : sr_B cb bg (n + 1) c X Y = sr_o (sr_leaf cb c X Y) (sr_end 0) := by
  rw [sr_B_o]
  unfold sr_part
  rw [if_neg (by omega), if_neg (by omega), if_neg (by omega), if_neg (by omega), if_neg (by omega), if_neg (by omega), if_neg (by omega), if_neg (by omega), if_neg (by omega), if_neg (by omega)]
  cases sr_leaf cb c X Y <;> rfl
theorem mb_3 {cb bg : Nat → Nat} {b0 nv pb np n c : Nat} {I : mo_I} {J : mo_J} {K : Nat → sr → Prop} {X Y : vt} (hk : cb c = 3) (T : sr) : mb cb bg K I J b0 nv pb np n c T X Y ↔ I 35 c = 1 ∧ vt_hi X = true ∧ ∃ i, I 40 c = nI i ∧ i ≤ vt_c X ∧ T = sr_eac X (vt_c X - i) i := by
  unfold mb; rw [if_pos hk]
section
variable {l : Launch} {E : gh_E} {a : Nat} {ad : Nat → Nat} {RW : (Nat → Int32) → mo_I → mo_J → Prop} {cb bg : Nat → Nat} {N b0 pb n c e w B C q φ nv np : Nat} {T : sr} {S : Nat → Int32} {I : mo_I} {J : mo_J}
/-- a leaf that has begun is at its end -/
theorem s_again (hcl : ms_cl l E a ad RW) (hN : N ≤ 60) (hq : qn cb bg N (q + 1) c e) (hw : w < 13) (hn : mn cb bg b0 pb B C w c S I J φ nv np) (hk : cb c = 0 ∨ cb c = 1 ∨ cb c = 2 ∨ cb c = 5 ∨ cb c = 6 ∨ cb c = 7 ∨ cb c = 15 ∨ cb c = 17 ∨ cb c = 18 ∨ cb c = 19 ∨ cb c = 20 ∨ cb c = 21) (hS : msh cb bg I J b0 nv pb np (n + 1) c T) (hG : mk_G RW cb bg b0 pb (n + 1) c e T φ w B C nv np S I J) : RW S I J := by
  obtain ⟨⟨q1, q2, -⟩, -⟩ := qn_o.mp hq
  obtain ⟨X, Y, -, -, hb⟩ := msh_o.mp hS
  obtain ⟨h35, hT⟩ := (mb_leaf (by omega) T).mp hb
  subst hT
  exact t_plain_again hcl S I J w c φ (cb c) hn.1.1.2.2.2 hn.2.2.1 (hn.k33 (by omega) rfl) hk hn.2.1 (by omega) (by omega) h35 (fun S2 I2 h => hG.ends hn h.1 h.2 q1)
theorem s_17 (hcl : ms_cl l E a ad RW) (hN : N ≤ 60) (hq : qn cb bg N (q + 1) c e) (hw : w < 13) (hn : mn cb bg b0 pb B C w c S I J φ nv np) (hk : cb c = 17) (h35 : I 35 c = 0) (hG : mk_G RW cb bg b0 pb (n + 1) c e (sr_end 0) φ w B C nv np S I J) : RW S I J := by
  obtain ⟨⟨q1, q2, -⟩, -⟩ := qn_o.mp hq
  exact t_plain_17 hcl S I J w c φ hn.1.1.2.2.2 hn.2.2.1 (hn.k33 (by omega) hk) hn.2.1 (by omega) (by omega) h35 (fun S2 I2 h => hG.ends hn h.1 h.2 q1)
/-- a leaf that begins -/
theorem s_leaf (hcl : ms_cl l E a ad RW) (hN : N ≤ 60) (hq : qn cb bg N (q + 1) c e) (hw : w < 13) (hn : mn cb bg b0 pb B C w c S I J φ nv np) (hB : nv + φ + 1 ≤ B ∧ np + 32 * (φ + 1) ≤ C) (hk : cb c = 0 ∨ cb c = 1 ∨ cb c = 2 ∨ cb c = 5 ∨ cb c = 6 ∨ cb c = 7 ∨ cb c = 15 ∨ cb c = 18 ∨ cb c = 19 ∨ cb c = 20 ∨ cb c = 21) {X Y : vt} (hx : mx I J b0 nv pb np 36 c X) (hy : mx I J b0 nv pb np 37 c Y) (h35 : I 35 c = 0) (hG : mk_G RW cb bg b0 pb (n + 1) c e (sr_B cb bg (n + 1) c X Y) φ w B C nv np S I J) : RW S I J := by
  obtain ⟨⟨q1, q2, q3, q4, q5⟩, -⟩ := qn_o.mp hq
  obtain ⟨v, hit, hO⟩ := hx
  obtain ⟨ve, hel, hY⟩ := hy
  have hx : mx I J b0 nv pb np 36 c X := ⟨v, hit, hO⟩
  have hy : mx I J b0 nv pb np 37 c Y := ⟨ve, hel, hY⟩
  have hz := hn.1
  obtain ⟨⟨z1, z2, z3, z4⟩, ⟨y1, y2, y3, y4⟩, hc, h33, h34⟩ := hz
  have hb1 := hn.2.2.2.2
  have hm : mct c w (fun _ => False) (va_up (fun k => I k c) 35 1) S I S (va_up I 35 (upd (I 35) c 1)) := mct.rf.cell 35 1 (by decide) (by decide)
  rw [sr_B_leaf hk] at hG
  have hG2 := hG.step (hm.fr2 q1 (fun _ z => z.elim)) (hm.ma (J := J)) sr_add_0.symm (Nat.zero_le _) (Nat.sub_zero _).symm (Nat.le_refl _) (Nat.le_refl _)
  have fin : ∀ (o : Option vt), sr_leaf cb c X Y = o → ∀ S2 I2 J2, mr_A o S (va_up I 35 (upd (I 35) c 1)) J b0 nv pb np w S2 I2 J2 → RW S2 I2 J2 := by
    intro o ho S2 I2 J2 hA
    subst ho
    refine hG2.mr (mct_mn hm hn rfl rfl) hB hA (fun nv2 np2 hI hM hl1 hl2 hl3 => ?_)
    have e35 : I2 35 c = 1 := by rw [hI 35 (by omega)]; exact hm.at 35 (by decide) (by decide)
    have e36 : I2 36 c = I 36 c := by rw [hI 36 (by omega)]; exact hm.at 36 (by decide) (by decide)
    have e37 : I2 37 c = I 37 c := by rw [hI 37 (by omega)]; exact hm.at 37 (by decide) (by decide)
    have hM2 := hm.ma.tr hM (Nat.le_refl _) (Nat.le_refl _)
    exact ⟨X, Y, hx.keep e36 hM2 hl1 hl2 hl3, hy.keep e37 hM2 hl1 hl2 hl3, (mb_leaf (by omega) _).mpr ⟨e35, rfl⟩⟩
  rcases hk with hk | hk | hk | hk | hk | hk | hk | hk | hk | hk | hk
  · exact t_plain_0 hcl S I J w c φ b0 nv pb np v ve 0 X Y z4 hn.2.2.1 (hn.k33 (by omega) hk) hn.2.1 (by omega) (by omega) h35 z1 z2 (by omega) (by omega) y2 y3 y4 hc hit hO hel hY (fin _ (by unfold sr_leaf; simp [hk]))
  · have hl := q4 (by omega)
    exact t_plain_1 hcl S I J w c φ b0 nv pb np v ve (cb (c + 1)) X Y z4 hn.2.2.1 (hn.k33 (by omega) hk) hn.2.1 (by omega) (by omega) h35 z1 z2 (by omega) (by omega) y2 y3 y4 hc hit hO hel hY (by omega) (h33 _ (by omega)) hl.2 (fin _ (by unfold sr_leaf; simp [hk]))
  · have hl := q5 (by omega)
    exact t_plain_2 hcl S I J w c φ b0 nv pb np v ve (cb (c + 1)) X Y z4 hn.2.2.1 (hn.k33 (by omega) hk) hn.2.1 (by omega) (by omega) h35 z1 z2 (by omega) (by omega) y2 y3 y4 hc hit hO hel hY (by omega) (h33 _ (by omega)) hl.2 (fin _ (by unfold sr_leaf; simp [hk]))
  · have hl := q5 (by omega)
    exact t_plain_5 hcl S I J w c φ b0 nv pb np v ve (cb (c + 1)) X Y z4 hn.2.2.1 (hn.k33 (by omega) hk) hn.2.1 (by omega) (by omega) h35 z1 z2 (by omega) (by omega) y2 y3 y4 hc hit hO hel hY (by omega) (h33 _ (by omega)) hl.2 (fin _ (by unfold sr_leaf; simp [hk]))
  · have hl := q4 (by omega)
    exact t_plain_6 hcl S I J w c φ b0 nv pb np v ve (cb (c + 1)) X Y z4 hn.2.2.1 (hn.k33 (by omega) hk) hn.2.1 (by omega) (by omega) h35 z1 z2 (by omega) (by omega) y2 y3 y4 hc hit hO hel hY (by omega) (h33 _ (by omega)) hl.2 (fin _ (by unfold sr_leaf; simp [hk]))
  · exact t_plain_7 hcl S I J w c φ b0 nv pb np v ve 0 X Y z4 hn.2.2.1 (hn.k33 (by omega) hk) hn.2.1 (by omega) (by omega) h35 z1 z2 (by omega) (by omega) y2 y3 y4 hc hit hO hel hY (fin _ (by unfold sr_leaf; simp [hk]))
  · exact t_plain_15 hcl S I J w c φ b0 nv pb np v ve 0 X Y z4 hn.2.2.1 (hn.k33 (by omega) hk) hn.2.1 (by omega) (by omega) h35 z1 z2 (by omega) (by omega) y2 y3 y4 hc hit hO hel hY (fin _ (by unfold sr_leaf; simp [hk]))
  · exact t_plain_18 hcl S I J w c φ b0 nv pb np v ve 0 X Y z4 hn.2.2.1 (hn.k33 (by omega) hk) hn.2.1 (by omega) (by omega) h35 z1 z2 (by omega) (by omega) y2 y3 y4 hc hit hO hel hY (fin _ (by unfold sr_leaf; simp [hk]))
  · cases htr : vt_tr X with
    | true => exact t_plain_19t hcl S I J w c φ b0 nv pb np v ve 0 X Y z4 hn.2.2.1 (hn.k33 (by omega) hk) hn.2.1 (by omega) (by omega) h35 z1 z2 (by omega) (by omega) y2 y3 y4 hc hit hO hel hY htr (fin _ (by unfold sr_leaf; simp [hk, htr]))
    | false => exact t_plain_19f hcl S I J w c φ b0 nv pb np v ve 0 X Y z4 hn.2.2.1 (hn.k33 (by omega) hk) hn.2.1 (by omega) (by omega) h35 z1 z2 (by omega) (by omega) y2 y3 y4 hc hit hO hel hY htr (fin _ (by unfold sr_leaf; simp [hk, htr]))
  · exact t_plain_20 hcl S I J w c φ b0 nv pb np v ve 0 X Y z4 hn.2.2.1 (hn.k33 (by omega) hk) hn.2.1 (by omega) (by omega) h35 z1 z2 (by omega) (by omega) y2 y3 y4 hc hit hO hel hY (fin _ (by unfold sr_leaf; simp [hk]))
  · exact t_plain_21 hcl S I J w c φ b0 nv pb np v ve 0 X Y z4 hn.2.2.1 (hn.k33 (by omega) hk) hn.2.1 (by omega) (by omega) h35 z1 z2 (by omega) (by omega) y2 y3 y4 hc hit hO hel hY (fin _ (by unfold sr_leaf; simp [hk]))
/-- the items one after the other -/
theorem s_3 (hcl : ms_cl l E a ad RW) (hN : N ≤ 60) (hq : qn cb bg N (q + 1) c e) (hw : w < 13) (hn : mn cb bg b0 pb B C w c S I J φ nv np) (hk : cb c = 3) (hH : mk_H cb bg I J b0 nv pb np (n + 1) c T φ B C) (hG : mk_G RW cb bg b0 pb (n + 1) c e T φ w B C nv np S I J) : RW S I J := by
  obtain ⟨⟨q1, q2, -⟩, -⟩ := qn_o.mp hq
  have c16 : ∀ {v X}, mw I J b0 nv pb np v X → vt_c X ≤ 16 := fun h => (vo_o.mp h.2).2.2.2.2.2.2.1
  have give : ∀ {S2 I2 C'} {X Y : vt} {i u : Nat}, vt_hi X = true → i < vt_c X → mx I J b0 nv pb np 36 c X → mx I J b0 nv pb np 37 c Y → mct c w (fun _ => False) C' S I S2 I2 → C' 35 = 1 → C' 36 = I 36 c → C' 37 = I 37 c → C' 40 = nI (i + 1) → mw I J b0 nv pb np u (vt_s X i) → oc_t w 1 (nI u) S S2 → mk_G RW cb bg b0 pb (n + 1) c e (sr_eac X (vt_c X - i) i) φ w B C nv np S I J → RW S2 I2 J := by
    intro S2 I2 C' X Y i u hhi hi hx hy hm c35 c36 c37 c40 hu ho hG
    rw [show vt_c X - i = (vt_c X - (i + 1)) + 1 by omega] at hG
    exact hG.vals hn hm ho q1 hu (msh_mk hm hx hy c36 c37 hn.p8 ((mb_3 hk _).mpr ⟨(hm.at 35 (by decide) (by decide)).trans c35, hhi, i + 1, (hm.at 40 (by decide) (by decide)).trans c40, by omega, rfl⟩))
  rcases hH with ⟨h35, ⟨X, Y, hx, hy, hT⟩, hB⟩ | hS
  · obtain ⟨v, hit, hO⟩ := hx
    have hx : mx I J b0 nv pb np 36 c X := ⟨v, hit, hO⟩
    have hc := c16 hO
    rw [sr_B_o] at hT
    unfold sr_part at hT
    rw [if_pos hk, Nat.min_eq_left hc] at hT
    cases hhi : vt_hi X with
    | false =>
      rw [hhi] at hT
      have hT : T = sr_fail 0 := hT
      subst hT
      exact t_each_0f hcl S I J w c φ b0 nv pb np v X hn.1.1.2.2.2 hn.2.2.1 (hn.k33 (by omega) hk) hn.2.1 (by omega) (by omega) h35 hit hO hhi (fun S2 I2 h => hG.fails hn h.1 h.2 q1)
    | true =>
      rw [hhi] at hT
      have hT : T = sr_eac X (vt_c X) 0 := hT
      subst hT
      by_cases h0 : 0 < vt_c X
      · refine t_each_0g hcl S I J w c φ b0 nv pb np v X hn.1.1.2.2.2 hn.2.2.1 (hn.k33 (by omega) hk) hn.2.1 (by omega) (by omega) h35 hit hO hhi h0 (fun S2 I2 h => ?_)
        obtain ⟨h1, b, h2, h3⟩ := h
        exact give (i := 0) hhi h0 hx hy h1 rfl rfl rfl rfl h2 h3 hG
      · have e0 : vt_c X = 0 := by omega
        rw [e0] at hG
        exact t_each_0e hcl S I J w c φ b0 nv pb np v X hn.1.1.2.2.2 hn.2.2.1 (hn.k33 (by omega) hk) hn.2.1 (by omega) (by omega) h35 hit hO hhi (by omega) (fun S2 I2 h => hG.ends hn h.1 h.2 q1)
  · obtain ⟨X, Y, hx, hy, hb⟩ := msh_o.mp hS
    obtain ⟨h35, hhi, i, h40, hi, hT⟩ := (mb_3 hk T).mp hb
    subst hT
    obtain ⟨v, hit, hO⟩ := hx
    have hx : mx I J b0 nv pb np 36 c X := ⟨v, hit, hO⟩
    have hc := c16 hO
    by_cases h0 : i < vt_c X
    · refine t_each_1g hcl S I J w c φ b0 nv pb np v X i hn.1.1.2.2.2 hn.2.2.1 (hn.k33 (by omega) hk) hn.2.1 (by omega) (by omega) h35 hit hO h40 (by omega) hhi h0 (fun S2 I2 h => ?_)
      obtain ⟨h1, b, h2, h3⟩ := h
      exact give (i := i) hhi h0 hx hy h1 rfl rfl rfl rfl h2 h3 hG
    · rw [show vt_c X - i = 0 by omega] at hG
      exact t_each_1e hcl S I J w c φ b0 nv pb np v X i hn.1.1.2.2.2 hn.2.2.1 (hn.k33 (by omega) hk) hn.2.1 (by omega) (by omega) h35 hit hO h40 (by omega) hhi (by omega) (fun S2 I2 h => hG.ends hn h.1 h.2 q1)
end
