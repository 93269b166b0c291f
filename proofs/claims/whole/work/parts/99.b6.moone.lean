/-! The parts of the model with one stream at a time: attempt, either, put, gather. -/
theorem mn.up {cb bg : Nat → Nat} {b0 pb B C B1 C1 w c : Nat} {S : Nat → Int32} {I : mo_I} {J : mo_J} {φ nv np : Nat} (h : mn cb bg b0 pb B1 C1 w c S I J φ nv np) (hB : B1 ≤ B ∧ C1 ≤ C ∧ B ≤ 759 ∧ C ≤ 8768) : mn cb bg b0 pb B C w c S I J φ nv np := ⟨h.1, h.2.1, h.2.2.1, ⟨by have := h.2.2.2.1.1; omega, by have := h.2.2.2.1.2; omega⟩, hB.2.2⟩
theorem mn.BC {cb bg : Nat → Nat} {b0 pb B C w c : Nat} {S : Nat → Int32} {I : mo_I} {J : mo_J} {φ nv np : Nat} (h : mn cb bg b0 pb B C w c S I J φ nv np) : B ≤ B ∧ C ≤ C ∧ B ≤ 759 ∧ C ≤ 8768 := ⟨Nat.le_refl _, Nat.le_refl _, h.2.2.2.2⟩
theorem mk_G.sp {RW : (Nat → Int32) → mo_I → mo_J → Prop} {cb bg : Nat → Nat} {b0 pb n c e φ w B C nv np : Nat} {S S2 : Nat → Int32} {I I2 : mo_I} {J J2 : mo_J} {o : Option vt} {R : sr} (h : mk_G RW cb bg b0 pb n c e (sr_add 1 (sr_o o R)) φ w B C nv np S I J) (hn : mn cb bg b0 pb B C w c S I J φ nv np) (hA : mr_sp o φ S I J b0 nv pb np w S2 I2 J2) (hR : ∀ nv2 np2, (∀ k, (33 ≤ k ∧ k ≤ 44) ∨ k = 50 ∨ k = 19 ∨ k = 29 → I2 k = I k) → ma I J I2 J2 b0 nv pb np → nv ≤ nv2 → np ≤ np2 → np2 ≤ 8800 → msh cb bg I2 J2 b0 nv2 pb np2 n c R) : RW S2 I2 J2 := by
  rcases hA with ⟨a1, rfl, rfl, rfl⟩ | ⟨a1, hA⟩
  · refine h _ _ _ ⟨⟨fun k hk => va_up_n (by omega), ⟨rfl, rfl, rfl, rfl, rfl⟩, fun _ _ => rfl, fun _ _ _ _ _ => rfl, fun _ _ _ _ _ => rfl⟩, ma.rf, Or.inl ⟨by rw [sr_c_add]; omega, va_up_s, ?_⟩⟩
    rw [va_up_n (by decide), hn.1.1.2.2.1, a1]; rfl
  · obtain ⟨⟨z1, z2, z3, z4⟩, ⟨y1, y2, y3, y4⟩, hc, h33, h34⟩ := hn.1
    have hb := hn.2.2.2.1
    have h2 := h.step (S1 := va_up S 48 (nI (φ - 1))) (I1 := I) (J1 := J) (nv1 := nv) (np1 := np) (T1 := sr_o o R) ⟨fun k hk => va_up_n (by omega), ⟨rfl, rfl, rfl, rfl, rfl⟩, fun _ _ => rfl, fun _ _ _ _ _ => rfl, fun _ _ _ _ _ => rfl⟩ ma.rf rfl a1 rfl (Nat.le_refl _) (Nat.le_refl _)
    exact h2.mr ⟨⟨by rw [va_up_n (by decide)]; exact z1, by rw [va_up_n (by decide)]; exact z2, va_up_s, by rw [va_up_n (by decide)]; exact z4⟩, ⟨by omega, y2, y3, y4⟩, hc, h33, h34⟩ (by omega) hA hR
theorem sr_c_try {P : sr} : sr_c (sr_try P) = sr_c P := by
  rcases sr_cases P with ⟨d, x, R, rfl⟩ | ⟨d, rfl⟩ | ⟨d, rfl⟩ <;> rfl
theorem sr_els_c {U P : sr} {g : Bool} : sr_c P ≤ sr_c (sr_els U g P) := by
  rcases sr_cases P with ⟨d, x, R, rfl⟩ | ⟨d, rfl⟩ | ⟨d, rfl⟩
  · cases h : vt_tr x with
    | true => rw [sr_els_t h]; exact Nat.le_refl _
    | false => rw [sr_els_f h, sr_c_add]; exact Nat.le_add_right _ _
  · cases g with
    | true => exact Nat.le_refl _
    | false => rw [sr_els_e0, sr_c_add]; exact Nat.le_add_right _ _
  · cases g with
    | true => exact Nat.le_refl _
    | false => rw [sr_els_f0, sr_c_add]; exact Nat.le_add_right _ _
theorem mb_13 {cb bg : Nat → Nat} {b0 nv pb np n c : Nat} {I : mo_I} {J : mo_J} {K : Nat → sr → Prop} {X Y : vt} (hk : cb c = 13) (T : sr) : mb cb bg K I J b0 nv pb np n c T X Y ↔ I 35 c = 1 ∧ ∃ P, K (bg (c * 3 + 0)) P ∧ T = sr_try P := by
  unfold mb; rw [if_neg (by omega), if_neg (by omega), if_neg (by omega), if_neg (by omega), if_neg (by omega), if_pos hk]
theorem mb_9 {cb bg : Nat → Nat} {b0 nv pb np n c : Nat} {I : mo_I} {J : mo_J} {K : Nat → sr → Prop} {X Y : vt} (hk : cb c = 9) (T : sr) : mb cb bg K I J b0 nv pb np n c T X Y ↔ (I 35 c = 1 ∧ ∃ P, K (bg (c * 3 + 0)) P ∧ T = sr_seq P (sr_D cb bg n (bg (c * 3 + 1)) X Y)) ∨ (I 35 c = 2 ∧ K (bg (c * 3 + 1)) T) := by
  unfold mb; rw [if_neg (by omega), if_neg (by omega), if_neg (by omega), if_pos hk]
theorem mb_10 {cb bg : Nat → Nat} {b0 nv pb np n c : Nat} {I : mo_I} {J : mo_J} {K : Nat → sr → Prop} {X Y : vt} (hk : cb c = 10) (T : sr) : mb cb bg K I J b0 nv pb np n c T X Y ↔ (I 35 c = 1 ∧ ∃ (g : Bool) (P : sr), I 38 c = (if g = true then 1 else 0) ∧ K (bg (c * 3 + 0)) P ∧ T = sr_els (sr_D cb bg n (bg (c * 3 + 1)) X Y) g P) ∨ (I 35 c = 2 ∧ K (bg (c * 3 + 1)) T) := by
  unfold mb; rw [if_neg (by omega), if_neg (by omega), if_neg (by omega), if_neg (by omega), if_pos hk]
theorem mb_16 {cb bg : Nat → Nat} {b0 nv pb np n c : Nat} {I : mo_I} {J : mo_J} {K : Nat → sr → Prop} {X Y : vt} (hk : cb c = 16) (T : sr) : mb cb bg K I J b0 nv pb np n c T X Y ↔ I 35 c = 1 ∧ (vt_k X = 0 ∨ vt_k X = 6) ∧ ∃ P, K (bg (c * 3 + 0)) P ∧ T = sr_op 1 (vt_wm X [nI (cb (c + 1))]) P := by
  unfold mb; rw [if_neg (by omega), if_neg (by omega), if_neg (by omega), if_neg (by omega), if_neg (by omega), if_neg (by omega), if_neg (by omega), if_pos hk]
section
variable {l : Launch} {E : gh_E} {a : Nat} {ad : Nat → Nat} {RW : (Nat → Int32) → mo_I → mo_J → Prop} {cb bg : Nat → Nat} {N b0 pb n c e w B C q φ nv np p ep p1 ep1 : Nat} {T P : sr} {C' : Nat → Int32} {S S1 : Nat → Int32} {I I1 : mo_I} {J : mo_J} {X Y : vt}
/-! attempt -/
theorem a_13 (hcl : ms_cl l E a ad RW) (hc60 : c < 60) (hce : c < e) (hw : w < 13) (hk : cb c = 13) (hp : p = bg (c * 3 + 0)) (hp60 : p < 60) (hx : mx I J b0 nv pb np 36 c X) (hy : mx I J b0 nv pb np 37 c Y) (c35 : C' 35 = 1) (c36 : C' 36 = I 36 c) (c37 : C' 37 = I 37 c) (hqp : qn cb bg N q p ep) (hcp : c < p) (hT : T = sr_try P) : mk_K RW cb bg b0 pb n c e w B C B C p ep T P φ nv np C' S I J S1 I1 := by
  intro S3 I3 J3 nv3 np3 hn hl hM hcel hF hF1 hG hE
  have hx3 : mx I3 J3 b0 nv3 pb np3 36 c X := hx.keep ((hcel 36 (by decide) (by decide)).trans c36) hM hl.1 hl.2.1 hn.p8
  have hy3 : mx I3 J3 b0 nv3 pb np3 37 c Y := hy.keep ((hcel 37 (by decide) (by decide)).trans c37) hM hl.1 hl.2.1 hn.p8
  have h34 : I3 34 (3 * c) = nI p := by rw [hp]; exact hn.k34 hc60 0 (by decide)
  rcases hE with ⟨d, rfl, h46⟩ | ⟨d, rfl, h46⟩ | ⟨d, x, R, u, rfl, h46, h47, hu, hR⟩
  · exact t_attempt_2 hcl S3 I3 J3 w c 0 p hn.1.1.2.2.2 hn.2.2.1 (hn.k33 hc60 hk) hn.2.1 (by omega) hc60 h34 ⟨hcp, hp60⟩ h46 (fun S4 I4 h => (hG (sr_end 0) (by rw [hT]; rfl)).ends hn h.1 h.2 hce)
  · exact t_attempt_3 hcl S3 I3 J3 w c 0 p hn.1.1.2.2.2 hn.2.2.1 (hn.k33 hc60 hk) hn.2.1 (by omega) hc60 h34 ⟨hcp, hp60⟩ h46 (fun S4 I4 h => (hG (sr_end 0) (by rw [hT]; rfl)).ends hn h.1 h.2 hce)
  · refine t_attempt_1 hcl S3 I3 J3 w c 0 p hn.1.1.2.2.2 hn.2.2.1 (hn.k33 hc60 hk) hn.2.1 (by omega) hc60 h34 ⟨hcp, hp60⟩ h46 (fun S4 I4 h => ?_)
    obtain ⟨h1, h2⟩ := h
    rw [h47] at h2
    refine (hG (sr_cons 0 x (sr_try R)) (by rw [hT]; rfl)).vals hn h1 h2 hce hu (msh_mk h1 hx3 hy3 rfl rfl hn.p8 ((mb_13 hk _).mpr ⟨?_, R, ?_, rfl⟩))
    · exact (h1.at 35 (by decide) (by decide)).trans ((hcel 35 (by decide) (by decide)).trans c35)
    · rw [← hp]; exact hR.turn h1 hqp hcp hn.p8
theorem s_13 (hcl : ms_cl l E a ad RW) (hN : N ≤ 60) (ih : mk_A RW cb bg N b0 pb n) (hq : qn cb bg N (q + 1) c e) (hn7 : q + 7 ≤ n) (hwq : w + 1 + q ≤ 13) (hn : mn cb bg b0 pb B C w c S I J φ nv np) (h46 : S 46 = 0) (hk : cb c = 13) (hH : mk_H cb bg I J b0 nv pb np (n + 1) c T φ B C) (hG : mk_G RW cb bg b0 pb (n + 1) c e T φ w B C nv np S I J) : RW S I J := by
  obtain ⟨⟨q1, q2, -⟩, en, hch, -⟩ := qn_o.mp hq
  obtain ⟨k1, k2, k3⟩ := hch 0 (by rw [hk]; decide)
  have k4 := k3.lt
  have h34 : I 34 (3 * c) = nI (bg (c * 3 + 0)) := hn.k34 (by omega) 0 (by decide)
  have hS : n ≠ 0 := by omega
  rcases hH with ⟨h35, ⟨X, Y, ⟨v, hit, hO⟩, ⟨x, hel, hY⟩, hT⟩, hB⟩ | hS
  · have hT : T = sr_try (sr_D cb bg n (bg (c * 3 + 0)) X Y) := by
      rw [hT, sr_B_o]; unfold sr_part
      rw [if_neg (by omega), if_neg (by omega), if_neg (by omega), if_neg (by omega), if_neg (by omega), if_neg (by omega), if_pos hk]
    refine t_attempt_00 hcl S I J w c φ (bg (c * 3 + 0)) hn.1.1.2.2.2 hn.2.2.1 (hn.k33 (by omega) hk) hn.2.1 (by omega) (by omega) hn.1.1.2.2.1 hn.1.2.1.1 h34 ⟨k1, by omega⟩ h46 h35 (fun S2 I2 h => ?_)
    exact mk_enter ih hG hn h.1 h.2 hit hel hO hY k3 ⟨k1, k2⟩ hn7 hwq hn.BC (by rw [hT, sr_c_try]; exact Nat.le_refl _) (a_13 hcl (by omega) q1 (by omega) hk rfl (by omega) ⟨v, hit, hO⟩ ⟨x, hel, hY⟩ rfl rfl rfl k3 k1 hT)
  · obtain ⟨X, Y, hx, hy, hb⟩ := msh_o.mp hS
    obtain ⟨h35, P, hP, hT⟩ := (mb_13 hk T).mp hb
    refine t_attempt_01 hcl S I J w c φ (bg (c * 3 + 0)) hn.1.1.2.2.2 hn.2.2.1 (hn.k33 (by omega) hk) hn.2.1 (by omega) (by omega) h34 ⟨k1, by omega⟩ h46 h35 (fun S2 I2 h => ?_)
    exact mk_ask ih hG hn h.1 h.2 k3 ⟨k1, k2⟩ hn7 hwq hP hn.BC (by rw [hT, sr_c_try]; exact Nat.le_refl _) (a_13 hcl (by omega) q1 (by omega) hk rfl (by omega) hx hy h35 rfl rfl k3 k1 hT)
/-! one after the other -/
theorem a_9b (hcl : ms_cl l E a ad RW) (hc60 : c < 60) (hce : c < e) (hw : w < 13) (hk : cb c = 9) (hp0c : c < bg (c * 3 + 0) ∧ bg (c * 3 + 0) < 60) (hp : p = bg (c * 3 + 1)) (hp60 : p < 60) (hx : mx I J b0 nv pb np 36 c X) (hy : mx I J b0 nv pb np 37 c Y) (c35 : C' 35 = 2) (c36 : C' 36 = I 36 c) (c37 : C' 37 = I 37 c) (hqp : qn cb bg N q p ep) (hcp : c < p) (hT : T = P) : mk_K RW cb bg b0 pb n c e w B C B C p ep T P φ nv np C' S I J S1 I1 := by
  intro S3 I3 J3 nv3 np3 hn hl hM hcel hF hF1 hG hE
  have hx3 : mx I3 J3 b0 nv3 pb np3 36 c X := hx.keep ((hcel 36 (by decide) (by decide)).trans c36) hM hl.1 hl.2.1 hn.p8
  have hy3 : mx I3 J3 b0 nv3 pb np3 37 c Y := hy.keep ((hcel 37 (by decide) (by decide)).trans c37) hM hl.1 hl.2.1 hn.p8
  have h34 : I3 34 (3 * c) = nI (bg (c * 3 + 0)) := hn.k34 hc60 0 (by decide)
  have h341 : I3 34 (3 * c + 1) = nI p := by rw [hp]; exact hn.k34 hc60 1 (by decide)
  have h35 : I3 35 c = 2 := (hcel 35 (by decide) (by decide)).trans c35
  rcases hE with ⟨d, rfl, h46⟩ | ⟨d, rfl, h46⟩ | ⟨d, x, R, u, rfl, h46, h47, hu, hR⟩
  · exact t_either_022 hcl S3 I3 J3 w c 0 (bg (c * 3 + 0)) p hn.1.1.2.2.2 hn.2.2.1 (hn.k33 hc60 hk) hn.2.1 (by omega) hc60 h34 hp0c h341 ⟨hcp, hp60⟩ h46 h35 (fun S4 I4 h => (hG (sr_end 0) (by rw [hT]; rfl)).ends hn h.1 h.2 hce)
  · exact t_either_032 hcl S3 I3 J3 w c 0 (bg (c * 3 + 0)) p hn.1.1.2.2.2 hn.2.2.1 (hn.k33 hc60 hk) hn.2.1 (by omega) hc60 h34 hp0c h341 ⟨hcp, hp60⟩ h46 h35 (fun S4 I4 h => (hG (sr_fail 0) (by rw [hT]; rfl)).fails hn h.1 h.2 hce)
  · refine t_either_012 hcl S3 I3 J3 w c 0 (bg (c * 3 + 0)) p u hn.1.1.2.2.2 hn.2.2.1 (hn.k33 hc60 hk) hn.2.1 (by omega) hc60 h34 hp0c h341 ⟨hcp, hp60⟩ h46 h35 h47 (fun S4 I4 h => ?_)
    obtain ⟨h1, h2⟩ := h
    refine (hG (sr_cons 0 x R) (by rw [hT]; rfl)).vals hn h1 h2 hce hu (msh_mk h1 hx3 hy3 rfl rfl hn.p8 ((mb_9 hk _).mpr (Or.inr ⟨?_, ?_⟩)))
    · exact (h1.at 35 (by decide) (by decide)).trans h35
    · rw [← hp]; exact hR.turn h1 hqp hcp hn.p8
theorem a_9 (hcl : ms_cl l E a ad RW) (ih : mk_A RW cb bg N b0 pb n) (hc60 : c < 60) (hce : c < e) (hwq : w + 1 + q ≤ 13) (hn7 : q + 7 ≤ n) (hk : cb c = 9) (hp : p = bg (c * 3 + 0)) (hp60 : p < 60) (hp1 : p1 = bg (c * 3 + 1)) (hp160 : p1 < 60) (hx : mx I J b0 nv pb np 36 c X) (hy : mx I J b0 nv pb np 37 c Y) (c35 : C' 35 = 1) (c36 : C' 36 = I 36 c) (c37 : C' 37 = I 37 c) (hqp : qn cb bg N q p ep) (hcp : c < p) (hqp1 : qn cb bg N q p1 ep1) (hcp1 : c < p1 ∧ ep1 ≤ e) (hT : T = sr_seq P (sr_D cb bg n p1 X Y)) : mk_K RW cb bg b0 pb n c e w B C B C p ep T P φ nv np C' S I J S1 I1 := by
  intro S3 I3 J3 nv3 np3 hn hl hM hcel hF hF1 hG hE
  have hx3 : mx I3 J3 b0 nv3 pb np3 36 c X := hx.keep ((hcel 36 (by decide) (by decide)).trans c36) hM hl.1 hl.2.1 hn.p8
  have hy3 : mx I3 J3 b0 nv3 pb np3 37 c Y := hy.keep ((hcel 37 (by decide) (by decide)).trans c37) hM hl.1 hl.2.1 hn.p8
  have h34 : I3 34 (3 * c) = nI p := by rw [hp]; exact hn.k34 hc60 0 (by decide)
  have h341 : I3 34 (3 * c + 1) = nI p1 := by rw [hp1]; exact hn.k34 hc60 1 (by decide)
  have h35 : I3 35 c = 1 := (hcel 35 (by decide) (by decide)).trans c35
  rcases hE with ⟨d, rfl, h46⟩ | ⟨d, rfl, h46⟩ | ⟨d, x, R, u, rfl, h46, h47, hu, hR⟩
  · refine t_either_021 hcl S3 I3 J3 w c _ p p1 hn.1.1.2.2.2 hn.2.2.1 (hn.k33 hc60 hk) hn.2.1 (by omega) hc60 hn.1.1.2.2.1 hn.1.2.1.1 h34 ⟨hcp, hp60⟩ h341 ⟨hcp1.1, hp160⟩ h46 h35 (fun S4 I4 h => ?_)
    obtain ⟨v, hit, hO⟩ := hx3
    obtain ⟨z, hel, hY⟩ := hy3
    exact mk_enter ih (hG (sr_D cb bg n p1 X Y) (by rw [hT]; rfl)) hn h.1 h.2 hit hel hO hY hqp1 hcp1 hn7 hwq hn.BC (Nat.le_refl _) (a_9b hcl hc60 hce (by omega) hk ⟨by omega, by omega⟩ hp1 hp160 ⟨v, hit, hO⟩ ⟨z, hel, hY⟩ rfl rfl rfl hqp1 hcp1.1 rfl)
  · exact t_either_031 hcl S3 I3 J3 w c 0 p p1 hn.1.1.2.2.2 hn.2.2.1 (hn.k33 hc60 hk) hn.2.1 (by omega) hc60 h34 ⟨hcp, hp60⟩ h341 ⟨hcp1.1, hp160⟩ h46 h35 (fun S4 I4 h => (hG (sr_fail 0) (by rw [hT]; rfl)).fails hn h.1 h.2 hce)
  · refine t_either_011 hcl S3 I3 J3 w c 0 p p1 u hn.1.1.2.2.2 hn.2.2.1 (hn.k33 hc60 hk) hn.2.1 (by omega) hc60 h34 ⟨hcp, hp60⟩ h341 ⟨hcp1.1, hp160⟩ h46 h35 h47 (fun S4 I4 h => ?_)
    obtain ⟨h1, h2⟩ := h
    refine (hG (sr_cons 0 x (sr_seq R (sr_D cb bg n p1 X Y))) (by rw [hT]; rfl)).vals hn h1 h2 hce hu (msh_mk h1 hx3 hy3 rfl rfl hn.p8 ((mb_9 hk _).mpr (Or.inl ⟨?_, R, ?_, by rw [hp1]⟩)))
    · exact (h1.at 35 (by decide) (by decide)).trans h35
    · rw [← hp]; exact hR.turn h1 hqp hcp hn.p8
theorem s_9 (hcl : ms_cl l E a ad RW) (hN : N ≤ 60) (ih : mk_A RW cb bg N b0 pb n) (hq : qn cb bg N (q + 1) c e) (hn7 : q + 7 ≤ n) (hwq : w + 1 + q ≤ 13) (hn : mn cb bg b0 pb B C w c S I J φ nv np) (h46 : S 46 = 0) (hk : cb c = 9) (hH : mk_H cb bg I J b0 nv pb np (n + 1) c T φ B C) (hG : mk_G RW cb bg b0 pb (n + 1) c e T φ w B C nv np S I J) : RW S I J := by
  obtain ⟨⟨q1, q2, -⟩, en, hch, -⟩ := qn_o.mp hq
  obtain ⟨k1, k2, k3⟩ := hch 0 (by rw [hk]; decide)
  obtain ⟨j1, j2, j3⟩ := hch 1 (by rw [hk]; decide)
  have k4 := k3.lt
  have j4 := j3.lt
  have h34 : I 34 (3 * c) = nI (bg (c * 3 + 0)) := hn.k34 (by omega) 0 (by decide)
  have h341 : I 34 (3 * c + 1) = nI (bg (c * 3 + 1)) := hn.k34 (by omega) 1 (by decide)
  rcases hH with ⟨h35, ⟨X, Y, ⟨v, hit, hO⟩, ⟨x, hel, hY⟩, hT⟩, hB⟩ | hS
  · have hT : T = sr_seq (sr_D cb bg n (bg (c * 3 + 0)) X Y) (sr_D cb bg n (bg (c * 3 + 1)) X Y) := by
      rw [hT, sr_B_o]; unfold sr_part
      rw [if_neg (by omega), if_neg (by omega), if_neg (by omega), if_pos hk]
    refine t_either_000 hcl S I J w c φ (bg (c * 3 + 0)) (bg (c * 3 + 1)) hn.1.1.2.2.2 hn.2.2.1 (hn.k33 (by omega) hk) hn.2.1 (by omega) (by omega) hn.1.1.2.2.1 hn.1.2.1.1 h34 ⟨k1, by omega⟩ h341 ⟨j1, by omega⟩ h46 h35 (fun S2 I2 h => ?_)
    exact mk_enter ih hG hn h.1 h.2 hit hel hO hY k3 ⟨k1, k2⟩ hn7 hwq hn.BC (by rw [hT]; exact sr_seq_c) (a_9 hcl ih (by omega) q1 hwq hn7 hk rfl (by omega) rfl (by omega) ⟨v, hit, hO⟩ ⟨x, hel, hY⟩ rfl rfl rfl k3 k1 j3 ⟨j1, j2⟩ hT)
  · obtain ⟨X, Y, hx, hy, hb⟩ := msh_o.mp hS
    rcases (mb_9 hk T).mp hb with ⟨h35, P, hP, hT⟩ | ⟨h35, hP⟩
    · refine t_either_001 hcl S I J w c φ (bg (c * 3 + 0)) (bg (c * 3 + 1)) hn.1.1.2.2.2 hn.2.2.1 (hn.k33 (by omega) hk) hn.2.1 (by omega) (by omega) h34 ⟨k1, by omega⟩ h341 ⟨j1, by omega⟩ h46 h35 (fun S2 I2 h => ?_)
      exact mk_ask ih hG hn h.1 h.2 k3 ⟨k1, k2⟩ hn7 hwq hP hn.BC (by rw [hT]; exact sr_seq_c) (a_9 hcl ih (by omega) q1 hwq hn7 hk rfl (by omega) rfl (by omega) hx hy h35 rfl rfl k3 k1 j3 ⟨j1, j2⟩ hT)
    · refine t_either_002 hcl S I J w c φ (bg (c * 3 + 0)) (bg (c * 3 + 1)) hn.1.1.2.2.2 hn.2.2.1 (hn.k33 (by omega) hk) hn.2.1 (by omega) (by omega) h34 ⟨k1, by omega⟩ h341 ⟨j1, by omega⟩ h46 h35 (fun S2 I2 h => ?_)
      exact mk_ask ih hG hn h.1 h.2 j3 ⟨j1, j2⟩ hn7 hwq hP hn.BC (Nat.le_refl _) (a_9b hcl (by omega) q1 (by omega) hk ⟨k1, by omega⟩ rfl (by omega) hx hy h35 rfl rfl j3 j1 rfl)
/-! the one, or else the other -/
theorem a_10b (hcl : ms_cl l E a ad RW) (hc60 : c < 60) (hce : c < e) (hw : w < 13) (hk : cb c = 10) (hp0c : c < bg (c * 3 + 0) ∧ bg (c * 3 + 0) < 60) (hp : p = bg (c * 3 + 1)) (hp60 : p < 60) (hx : mx I J b0 nv pb np 36 c X) (hy : mx I J b0 nv pb np 37 c Y) (c35 : C' 35 = 2) (c36 : C' 36 = I 36 c) (c37 : C' 37 = I 37 c) (hqp : qn cb bg N q p ep) (hcp : c < p) (hT : T = P) : mk_K RW cb bg b0 pb n c e w B C B C p ep T P φ nv np C' S I J S1 I1 := by
  intro S3 I3 J3 nv3 np3 hn hl hM hcel hF hF1 hG hE
  have hx3 : mx I3 J3 b0 nv3 pb np3 36 c X := hx.keep ((hcel 36 (by decide) (by decide)).trans c36) hM hl.1 hl.2.1 hn.p8
  have hy3 : mx I3 J3 b0 nv3 pb np3 37 c Y := hy.keep ((hcel 37 (by decide) (by decide)).trans c37) hM hl.1 hl.2.1 hn.p8
  have h34 : I3 34 (3 * c) = nI (bg (c * 3 + 0)) := hn.k34 hc60 0 (by decide)
  have h341 : I3 34 (3 * c + 1) = nI p := by rw [hp]; exact hn.k34 hc60 1 (by decide)
  have h35 : I3 35 c = 2 := (hcel 35 (by decide) (by decide)).trans c35
  rcases hE with ⟨d, rfl, h46⟩ | ⟨d, rfl, h46⟩ | ⟨d, x, R, u, rfl, h46, h47, hu, hR⟩
  · exact t_either_122 hcl S3 I3 J3 w c 0 (bg (c * 3 + 0)) p hn.1.1.2.2.2 hn.2.2.1 (hn.k33 hc60 hk) hn.2.1 (by omega) hc60 h34 hp0c h341 ⟨hcp, hp60⟩ h46 h35 (fun S4 I4 h => (hG (sr_end 0) (by rw [hT]; rfl)).ends hn h.1 h.2 hce)
  · exact t_either_132 hcl S3 I3 J3 w c 0 (bg (c * 3 + 0)) p hn.1.1.2.2.2 hn.2.2.1 (hn.k33 hc60 hk) hn.2.1 (by omega) hc60 h34 hp0c h341 ⟨hcp, hp60⟩ h46 h35 (fun S4 I4 h => (hG (sr_fail 0) (by rw [hT]; rfl)).fails hn h.1 h.2 hce)
  · refine t_either_112 hcl S3 I3 J3 w c 0 (bg (c * 3 + 0)) p u hn.1.1.2.2.2 hn.2.2.1 (hn.k33 hc60 hk) hn.2.1 (by omega) hc60 h34 hp0c h341 ⟨hcp, hp60⟩ h46 h35 h47 (fun S4 I4 h => ?_)
    obtain ⟨h1, h2⟩ := h
    refine (hG (sr_cons 0 x R) (by rw [hT]; rfl)).vals hn h1 h2 hce hu (msh_mk h1 hx3 hy3 rfl rfl hn.p8 ((mb_10 hk _).mpr (Or.inr ⟨?_, ?_⟩)))
    · exact (h1.at 35 (by decide) (by decide)).trans h35
    · rw [← hp]; exact hR.turn h1 hqp hcp hn.p8
theorem a_10 (hcl : ms_cl l E a ad RW) (ih : mk_A RW cb bg N b0 pb n) (hc60 : c < 60) (hce : c < e) (hwq : w + 1 + q ≤ 13) (hn7 : q + 7 ≤ n) (hk : cb c = 10) (hp : p = bg (c * 3 + 0)) (hp60 : p < 60) (hp1 : p1 = bg (c * 3 + 1)) (hp160 : p1 < 60) (hqp : qn cb bg N q p ep) (hcp : c < p ∧ ep ≤ e) (hqp1 : qn cb bg N q p1 ep1) (hcp1 : c < p1 ∧ ep1 ≤ e) : ∀ (m : Nat) {φ nv np : Nat} {T P : sr} {C' : Nat → Int32} {S S1 : Nat → Int32} {I I1 : mo_I} {J : mo_J} {g : Bool}, P.1.length = m → mx I J b0 nv pb np 36 c X → mx I J b0 nv pb np 37 c Y → C' 35 = 1 → C' 36 = I 36 c → C' 37 = I 37 c → C' 38 = (if g = true then 1 else 0) → T = sr_els (sr_D cb bg n p1 X Y) g P → mk_K RW cb bg b0 pb n c e w B C B C p ep T P φ nv np C' S I J S1 I1 := by
  intro m
  induction m with
  | zero =>
    intro φ nv np T P C' S S1 I I1 J g hlen hx hy c35 c36 c37 c38 hT S3 I3 J3 nv3 np3 hn hl hM hcel hF hF1 hG hE
    have hx3 : mx I3 J3 b0 nv3 pb np3 36 c X := hx.keep ((hcel 36 (by decide) (by decide)).trans c36) hM hl.1 hl.2.1 hn.p8
    have hy3 : mx I3 J3 b0 nv3 pb np3 37 c Y := hy.keep ((hcel 37 (by decide) (by decide)).trans c37) hM hl.1 hl.2.1 hn.p8
    have h34 : I3 34 (3 * c) = nI p := by rw [hp]; exact hn.k34 hc60 0 (by decide)
    have h341 : I3 34 (3 * c + 1) = nI p1 := by rw [hp1]; exact hn.k34 hc60 1 (by decide)
    have h35 : I3 35 c = 1 := (hcel 35 (by decide) (by decide)).trans c35
    have h38 := (hcel 38 (by decide) (by decide)).trans c38
    rcases hE with ⟨d, rfl, h46⟩ | ⟨d, rfl, h46⟩ | ⟨d, x, R, u, rfl, h46, h47, hu, hR⟩
    · cases g with
      | true => exact t_either_121h hcl S3 I3 J3 w c 0 p p1 hn.1.1.2.2.2 hn.2.2.1 (hn.k33 hc60 hk) hn.2.1 (by omega) hc60 h34 ⟨hcp.1, hp60⟩ h341 ⟨hcp1.1, hp160⟩ h46 h35 h38 (fun S4 I4 h => (hG (sr_end 0) (by rw [hT]; rfl)).ends hn h.1 h.2 hce)
      | false =>
        refine t_either_121n hcl S3 I3 J3 w c _ p p1 hn.1.1.2.2.2 hn.2.2.1 (hn.k33 hc60 hk) hn.2.1 (by omega) hc60 hn.1.1.2.2.1 hn.1.2.1.1 h34 ⟨hcp.1, hp60⟩ h341 ⟨hcp1.1, hp160⟩ h46 h35 h38 (fun S4 I4 h => ?_)
        obtain ⟨v, hit, hO⟩ := hx3
        obtain ⟨z, hel, hY⟩ := hy3
        exact mk_enter ih (hG (sr_D cb bg n p1 X Y) (by rw [hT]; rfl)) hn h.1 h.2 hit hel hO hY hqp1 hcp1 hn7 hwq hn.BC (Nat.le_refl _) (a_10b hcl hc60 hce (by omega) hk ⟨by omega, by omega⟩ hp1 hp160 ⟨v, hit, hO⟩ ⟨z, hel, hY⟩ rfl rfl rfl hqp1 hcp1.1 rfl)
    · cases g with
      | true => exact t_either_131h hcl S3 I3 J3 w c 0 p p1 hn.1.1.2.2.2 hn.2.2.1 (hn.k33 hc60 hk) hn.2.1 (by omega) hc60 h34 ⟨hcp.1, hp60⟩ h341 ⟨hcp1.1, hp160⟩ h46 h35 h38 (fun S4 I4 h => (hG (sr_end 0) (by rw [hT]; rfl)).ends hn h.1 h.2 hce)
      | false =>
        refine t_either_131n hcl S3 I3 J3 w c _ p p1 hn.1.1.2.2.2 hn.2.2.1 (hn.k33 hc60 hk) hn.2.1 (by omega) hc60 hn.1.1.2.2.1 hn.1.2.1.1 h34 ⟨hcp.1, hp60⟩ h341 ⟨hcp1.1, hp160⟩ h46 h35 h38 (fun S4 I4 h => ?_)
        obtain ⟨v, hit, hO⟩ := hx3
        obtain ⟨z, hel, hY⟩ := hy3
        exact mk_enter ih (hG (sr_D cb bg n p1 X Y) (by rw [hT]; rfl)) hn h.1 h.2 hit hel hO hY hqp1 hcp1 hn7 hwq hn.BC (Nat.le_refl _) (a_10b hcl hc60 hce (by omega) hk ⟨by omega, by omega⟩ hp1 hp160 ⟨v, hit, hO⟩ ⟨z, hel, hY⟩ rfl rfl rfl hqp1 hcp1.1 rfl)
    · exact absurd hlen (Nat.succ_ne_zero _)
  | succ m im =>
    intro φ nv np T P C' S S1 I I1 J g hlen hx hy c35 c36 c37 c38 hT S3 I3 J3 nv3 np3 hn hl hM hcel hF hF1 hG hE
    have hx3 : mx I3 J3 b0 nv3 pb np3 36 c X := hx.keep ((hcel 36 (by decide) (by decide)).trans c36) hM hl.1 hl.2.1 hn.p8
    have hy3 : mx I3 J3 b0 nv3 pb np3 37 c Y := hy.keep ((hcel 37 (by decide) (by decide)).trans c37) hM hl.1 hl.2.1 hn.p8
    have h34 : I3 34 (3 * c) = nI p := by rw [hp]; exact hn.k34 hc60 0 (by decide)
    have h341 : I3 34 (3 * c + 1) = nI p1 := by rw [hp1]; exact hn.k34 hc60 1 (by decide)
    have h35 : I3 35 c = 1 := (hcel 35 (by decide) (by decide)).trans c35
    have h38 := (hcel 38 (by decide) (by decide)).trans c38
    rcases hE with ⟨d, rfl, h46⟩ | ⟨d, rfl, h46⟩ | ⟨d, x, R, u, rfl, h46, h47, hu, hR⟩
    · exact absurd hlen (by intro z; exact absurd z.symm (Nat.succ_ne_zero _))
    · exact absurd hlen (by intro z; exact absurd z.symm (Nat.succ_ne_zero _))
    · cases htr : vt_tr x with
      | true =>
        refine t_either_111t hcl S3 I3 J3 w c 0 p p1 b0 nv3 pb np3 x u hn.1.1.2.2.2 hn.2.2.1 (hn.k33 hc60 hk) hn.2.1 (by omega) hc60 h34 ⟨hcp.1, hp60⟩ h341 ⟨hcp1.1, hp160⟩ h46 h35 h47 hu hn.1.2.2.1 htr (fun S4 I4 h => ?_)
        obtain ⟨h1, h2⟩ := h
        refine (hG (sr_cons 0 x (sr_els (sr_D cb bg n p1 X Y) true R)) (by rw [hT, sr_els_t htr]; rfl)).vals hn h1 h2 hce hu (msh_mk h1 hx3 hy3 rfl rfl hn.p8 ((mb_10 hk _).mpr (Or.inl ⟨?_, true, R, ?_, ?_, by rw [hp1]⟩)))
        · exact (h1.at 35 (by decide) (by decide)).trans h35
        · exact h1.at 38 (by decide) (by decide)
        · rw [← hp]; exact hR.turn h1 hqp hcp.1 hn.p8
      | false =>
        refine t_either_111f hcl S3 I3 J3 w c 0 p p1 b0 nv3 pb np3 x u hn.1.1.2.2.2 hn.2.2.1 (hn.k33 hc60 hk) hn.2.1 (by omega) hc60 h34 ⟨hcp.1, hp60⟩ h341 ⟨hcp1.1, hp160⟩ h46 h35 h47 hu hn.1.2.2.1 htr (fun S4 I4 h => ?_)
        exact mk_ask ih (hG (sr_els (sr_D cb bg n p1 X Y) g R) (by rw [hT, sr_els_f htr]; rfl)) hn h.1 h.2 hqp hcp hn7 hwq hR hn.BC sr_els_c (im (Nat.succ.inj hlen) hx3 hy3 h35 rfl rfl h38 rfl)
theorem s_10 (hcl : ms_cl l E a ad RW) (hN : N ≤ 60) (ih : mk_A RW cb bg N b0 pb n) (hq : qn cb bg N (q + 1) c e) (hn7 : q + 7 ≤ n) (hwq : w + 1 + q ≤ 13) (hn : mn cb bg b0 pb B C w c S I J φ nv np) (h46 : S 46 = 0) (hk : cb c = 10) (hH : mk_H cb bg I J b0 nv pb np (n + 1) c T φ B C) (hG : mk_G RW cb bg b0 pb (n + 1) c e T φ w B C nv np S I J) : RW S I J := by
  obtain ⟨⟨q1, q2, -⟩, en, hch, -⟩ := qn_o.mp hq
  obtain ⟨k1, k2, k3⟩ := hch 0 (by rw [hk]; decide)
  obtain ⟨j1, j2, j3⟩ := hch 1 (by rw [hk]; decide)
  have k4 := k3.lt
  have j4 := j3.lt
  have h34 : I 34 (3 * c) = nI (bg (c * 3 + 0)) := hn.k34 (by omega) 0 (by decide)
  have h341 : I 34 (3 * c + 1) = nI (bg (c * 3 + 1)) := hn.k34 (by omega) 1 (by decide)
  rcases hH with ⟨h35, ⟨X, Y, ⟨v, hit, hO⟩, ⟨x, hel, hY⟩, hT⟩, hB⟩ | hS
  · have hT : T = sr_els (sr_D cb bg n (bg (c * 3 + 1)) X Y) false (sr_D cb bg n (bg (c * 3 + 0)) X Y) := by
      rw [hT, sr_B_o]; unfold sr_part
      rw [if_neg (by omega), if_neg (by omega), if_neg (by omega), if_neg (by omega), if_pos hk]
    refine t_either_100 hcl S I J w c φ (bg (c * 3 + 0)) (bg (c * 3 + 1)) hn.1.1.2.2.2 hn.2.2.1 (hn.k33 (by omega) hk) hn.2.1 (by omega) (by omega) hn.1.1.2.2.1 hn.1.2.1.1 h34 ⟨k1, by omega⟩ h341 ⟨j1, by omega⟩ h46 h35 (fun S2 I2 h => ?_)
    exact mk_enter ih hG hn h.1 h.2 hit hel hO hY k3 ⟨k1, k2⟩ hn7 hwq hn.BC (by rw [hT]; exact sr_els_c) (a_10 hcl ih (by omega) q1 hwq hn7 hk rfl (by omega) rfl (by omega) k3 ⟨k1, k2⟩ j3 ⟨j1, j2⟩ _ (g := false) rfl ⟨v, hit, hO⟩ ⟨x, hel, hY⟩ rfl rfl rfl rfl hT)
  · obtain ⟨X, Y, hx, hy, hb⟩ := msh_o.mp hS
    rcases (mb_10 hk T).mp hb with ⟨h35, g, P, h38, hP, hT⟩ | ⟨h35, hP⟩
    · refine t_either_101 hcl S I J w c φ (bg (c * 3 + 0)) (bg (c * 3 + 1)) hn.1.1.2.2.2 hn.2.2.1 (hn.k33 (by omega) hk) hn.2.1 (by omega) (by omega) h34 ⟨k1, by omega⟩ h341 ⟨j1, by omega⟩ h46 h35 (fun S2 I2 h => ?_)
      exact mk_ask ih hG hn h.1 h.2 k3 ⟨k1, k2⟩ hn7 hwq hP hn.BC (by rw [hT]; exact sr_els_c) (a_10 hcl ih (by omega) q1 hwq hn7 hk rfl (by omega) rfl (by omega) k3 ⟨k1, k2⟩ j3 ⟨j1, j2⟩ _ rfl hx hy h35 rfl rfl h38 hT)
    · refine t_either_102 hcl S I J w c φ (bg (c * 3 + 0)) (bg (c * 3 + 1)) hn.1.1.2.2.2 hn.2.2.1 (hn.k33 (by omega) hk) hn.2.1 (by omega) (by omega) h34 ⟨k1, by omega⟩ h341 ⟨j1, by omega⟩ h46 h35 (fun S2 I2 h => ?_)
      exact mk_ask ih hG hn h.1 h.2 j3 ⟨j1, j2⟩ hn7 hwq hP hn.BC (Nat.le_refl _) (a_10b hcl (by omega) q1 (by omega) hk ⟨k1, by omega⟩ rfl (by omega) hx hy h35 rfl rfl j3 j1 rfl)
end
