/-! fold of the model. -/
theorem mb_14 {cb bg : Nat → Nat} {b0 nv pb np n c : Nat} {I : mo_I} {J : mo_J} {K : Nat → sr → Prop} {X Y : vt} (hk : cb c = 14) (T : sr) : mb cb bg K I J b0 nv pb np n c T X Y ↔ I 35 c = 4 ∧ ∃ P, K (bg (c * 3 + 1)) P ∧ T = sr_fol (sr_D cb bg n (bg (c * 3 + 0)) X Y) (fun v x => sr_D cb bg n (bg (c * 3 + 2)) v x) P := by
  unfold mb; rw [if_neg (by omega), if_neg (by omega), if_neg (by omega), if_neg (by omega), if_neg (by omega), if_neg (by omega), if_pos hk]
def sr_fo (r : Nat × Option vt) (U : sr) : sr := match r.2 with
  | none => sr_fail r.1
  | some w => sr_cons r.1 w U
/-- the rest of one step of a fold, and what follows -/
def sr_f3 (g : vt → vt → sr) (r : Nat × Option vt) (Q U : sr) : sr := match r.2 with
  | none => sr_fail r.1
  | some w => sr_add r.1 (sr_fo (sr_fin g w Q) U)
theorem sr_fo_add {d c : Nat} {o : Option vt} {U : sr} : sr_fo (d + c, o) U = sr_add d (sr_fo (c, o) U) := by cases o <;> rfl
theorem sr_fol_o {P R : sr} {g : vt → vt → sr} {d : Nat} {x : vt} : sr_fol P g (sr_cons d x R) = sr_add d (sr_fo (sr_fin g x P) (sr_fol P g R)) := by
  cases h : sr_fin g x P with
  | mk c o =>
    cases o with
    | none => rw [sr_fol_none h]; rfl
    | some w => rw [sr_fol_some h]; rfl
theorem sr_fin_o {g : vt → vt → sr} {v x : vt} {d : Nat} {Q U : sr} : sr_fo (sr_fin g v (sr_cons d x Q)) U = sr_add d (sr_f3 g (sr_all (vt_0 0) (g v x)) Q U) := by
  cases h : sr_all (vt_0 0) (g v x) with
  | mk c o =>
    cases o with
    | none => rw [sr_fin_none h]; rfl
    | some w =>
      rw [sr_fin_some h, sr_fo_add]
      show sr_add (d + c) (sr_fo (sr_fin g w Q) U) = sr_add d (sr_add c (sr_fo (sr_fin g w Q) U))
      rw [sr_add_add]
theorem sr_f3_cons {g : vt → vt → sr} {v x : vt} {d : Nat} {M Q U : sr} : sr_f3 g (sr_all v (sr_cons d x M)) Q U = sr_add d (sr_f3 g (sr_all x M) Q U) := by
  rw [sr_all_cons]
  cases h : sr_all x M with
  | mk c o =>
    cases o with
    | none => rfl
    | some w =>
      show sr_add (d + c) (sr_fo (sr_fin g w Q) U) = sr_add d (sr_add c (sr_fo (sr_fin g w Q) U))
      rw [sr_add_add]
theorem sr_fo_c {g : vt → vt → sr} {v : vt} {Q U : sr} : sr_c Q ≤ sr_c (sr_fo (sr_fin g v Q) U) := by
  rcases sr_cases Q with ⟨d, x, R, rfl⟩ | ⟨d, rfl⟩ | ⟨d, rfl⟩
  · rw [sr_fin_o, sr_c_add]; exact Nat.le_add_right _ _
  · exact Nat.le_refl _
  · exact Nat.le_refl _
theorem sr_f3_c {g : vt → vt → sr} {v : vt} {M Q U : sr} : sr_c M ≤ sr_c (sr_f3 g (sr_all v M) Q U) := by
  rcases sr_cases M with ⟨d, x, R, rfl⟩ | ⟨d, rfl⟩ | ⟨d, rfl⟩
  · rw [sr_f3_cons, sr_c_add]; exact Nat.le_add_right _ _
  · show d ≤ sr_c (sr_add d (sr_fo (sr_fin g v Q) U)); rw [sr_c_add]; exact Nat.le_add_right _ _
  · exact Nat.le_refl _
section
variable {l : Launch} {E : gh_E} {a : Nat} {ad : Nat → Nat} {RW : (Nat → Int32) → mo_I → mo_J → Prop} {cb bg : Nat → Nat} {N b0 pb n c e w B C q φ nv np p0 ep0 p1 ep1 p2 ep2 : Nat} {T P Q R U : sr} {C' : Nat → Int32} {S S1 : Nat → Int32} {I I1 : mo_I} {J : mo_J} {X Y x : vt}
/-- one step of the fold: p2 was asked, p0 and p1 wait -/
theorem a_fol3 (hcl : ms_cl l E a ad RW) (ih : mk_A RW cb bg N b0 pb n) (hc60 : c < 60) (hce : c < e) (hwq : w + 1 + q ≤ 13) (hn7 : q + 7 ≤ n) (hk : cb c = 14) (hp0 : p0 = bg (c * 3 + 0)) (hp1 : p1 = bg (c * 3 + 1)) (hp2 : p2 = bg (c * 3 + 2)) (h60 : p0 < 60 ∧ p1 < 60 ∧ p2 < 60) (hqp0 : qn cb bg N q p0 ep0) (hqp1 : qn cb bg N q p1 ep1) (hqp2 : qn cb bg N q p2 ep2) (hcp : c < p0 ∧ c < p1 ∧ c < p2 ∧ ep0 ≤ e ∧ ep1 ≤ e ∧ ep2 ≤ e) (hap : ep0 ≤ p1 ∧ ep0 ≤ p2 ∧ ep1 ≤ p2) (rec : ∀ {φ nv np : Nat} {T : sr} {C' : Nat → Int32} {S S1 : Nat → Int32} {I I1 : mo_I} {J : mo_J} {v : vt} {vu : Nat}, mx I J b0 nv pb np 36 c X → mx I J b0 nv pb np 37 c Y → C' 35 = 2 → C' 36 = I 36 c → C' 37 = I 37 c → C' 38 = nI vu → mw I J b0 nv pb np vu v → msh cb bg I J b0 nv pb np n p1 R → T = sr_fo (sr_fin (fun v x => sr_D cb bg n p2 v x) v Q) (sr_fol (sr_D cb bg n p0 X Y) (fun v x => sr_D cb bg n p2 v x) R) → mk_K RW cb bg b0 pb n c e w B C B C p0 ep0 T Q φ nv np C' S I J S1 I1) : ∀ (m : Nat) {M : sr}, M.1.length = m → ∀ {φ nv np : Nat} {T : sr} {C' : Nat → Int32} {S S1 : Nat → Int32} {I I1 : mo_I} {J : mo_J} {lt : vt} {lu : Nat}, mx I J b0 nv pb np 36 c X → mx I J b0 nv pb np 37 c Y → C' 35 = 3 → C' 36 = I 36 c → C' 37 = I 37 c → C' 39 = nI lu → mw I J b0 nv pb np lu lt → msh cb bg I J b0 nv pb np n p1 R → msh cb bg I J b0 nv pb np n p0 Q → T = sr_f3 (fun v x => sr_D cb bg n p2 v x) (sr_all lt M) Q (sr_fol (sr_D cb bg n p0 X Y) (fun v x => sr_D cb bg n p2 v x) R) → mk_K RW cb bg b0 pb n c e w B C B C p2 ep2 T M φ nv np C' S I J S1 I1 := by
  have l0 := hqp0.lt
  have l1 := hqp1.lt
  have l2 := hqp2.lt
  intro m
  induction m with
  | zero =>
    intro M hlen φ nv np T C' S S1 I I1 J lt lu hx hy c35 c36 c37 c39 hlu hR hQ hT S3 I3 J3 nv3 np3 hn hl hM hcel hF hF1 hG hE
    have hx3 : mx I3 J3 b0 nv3 pb np3 36 c X := hx.keep ((hcel 36 (by decide) (by decide)).trans c36) hM hl.1 hl.2.1 hn.p8
    have hy3 : mx I3 J3 b0 nv3 pb np3 37 c Y := hy.keep ((hcel 37 (by decide) (by decide)).trans c37) hM hl.1 hl.2.1 hn.p8
    have h340 : I3 34 (3 * c) = nI p0 := by rw [hp0]; exact hn.k34 hc60 0 (by decide)
    have h341 : I3 34 (3 * c + 1) = nI p1 := by rw [hp1]; exact hn.k34 hc60 1 (by decide)
    have h342 : I3 34 (3 * c + 2) = nI p2 := by rw [hp2]; exact hn.k34 hc60 2 (by decide)
    have h35 : I3 35 c = 3 := (hcel 35 (by decide) (by decide)).trans c35
    have h39 : I3 39 c = nI lu := (hcel 39 (by decide) (by decide)).trans c39
    have hlu3 := hlu.keep hM hl.1 hl.2.1 hn.p8
    have hR3 : msh cb bg I3 J3 b0 nv3 pb np3 n p1 R := msh.keep hM hl.1 hl.2.1 hn.p8 hR hqp1 (hF.eq (fun j h1 h2 => by omega))
    have hQ3 : msh cb bg I3 J3 b0 nv3 pb np3 n p0 Q := msh.keep hM hl.1 hl.2.1 hn.p8 hQ hqp0 (hF.eq (fun j h1 h2 => by omega))
    rcases hE with ⟨d, rfl, h46⟩ | ⟨d, rfl, h46⟩ | ⟨d, x, M2, u, rfl, h46, h47, hu, hM2⟩
    · refine t_fold_23 hcl S3 I3 J3 w c 0 p0 p1 p2 hn.1.1.2.2.2 hn.2.2.1 (hn.k33 hc60 hk) hn.2.1 (by omega) hc60 h340 ⟨by omega, by omega⟩ h341 ⟨by omega, by omega⟩ h342 ⟨by omega, by omega⟩ h46 h35 (fun S4 I4 h => ?_)
      exact mk_ask ih (hG _ (by rw [hT, sr_all_end]; rfl)) hn h.1 h.2 hqp0 ⟨by omega, by omega⟩ hn7 hwq hQ3 hn.BC sr_fo_c (rec hx3 hy3 rfl rfl rfl h39 hlu3 hR3 rfl)
    · exact t_fold_3 hcl S3 I3 J3 w c 0 p0 p1 p2 hn.1.1.2.2.2 hn.2.2.1 (hn.k33 hc60 hk) hn.2.1 (by omega) hc60 h340 ⟨by omega, by omega⟩ h341 ⟨by omega, by omega⟩ h342 ⟨by omega, by omega⟩ h46 (fun S4 I4 h => (hG (sr_fail 0) (by rw [hT]; rfl)).fails hn h.1 h.2 hce)
    · exact absurd hlen (Nat.succ_ne_zero _)
  | succ m im =>
    intro M hlen φ nv np T C' S S1 I I1 J lt lu hx hy c35 c36 c37 c39 hlu hR hQ hT S3 I3 J3 nv3 np3 hn hl hM hcel hF hF1 hG hE
    have hx3 : mx I3 J3 b0 nv3 pb np3 36 c X := hx.keep ((hcel 36 (by decide) (by decide)).trans c36) hM hl.1 hl.2.1 hn.p8
    have hy3 : mx I3 J3 b0 nv3 pb np3 37 c Y := hy.keep ((hcel 37 (by decide) (by decide)).trans c37) hM hl.1 hl.2.1 hn.p8
    have h340 : I3 34 (3 * c) = nI p0 := by rw [hp0]; exact hn.k34 hc60 0 (by decide)
    have h341 : I3 34 (3 * c + 1) = nI p1 := by rw [hp1]; exact hn.k34 hc60 1 (by decide)
    have h342 : I3 34 (3 * c + 2) = nI p2 := by rw [hp2]; exact hn.k34 hc60 2 (by decide)
    have h35 : I3 35 c = 3 := (hcel 35 (by decide) (by decide)).trans c35
    have hR3 : msh cb bg I3 J3 b0 nv3 pb np3 n p1 R := msh.keep hM hl.1 hl.2.1 hn.p8 hR hqp1 (hF.eq (fun j h1 h2 => by omega))
    have hQ3 : msh cb bg I3 J3 b0 nv3 pb np3 n p0 Q := msh.keep hM hl.1 hl.2.1 hn.p8 hQ hqp0 (hF.eq (fun j h1 h2 => by omega))
    rcases hE with ⟨d, rfl, h46⟩ | ⟨d, rfl, h46⟩ | ⟨d, x, M2, u, rfl, h46, h47, hu, hM2⟩
    · exact absurd hlen (by intro z; exact absurd z.symm (Nat.succ_ne_zero _))
    · exact absurd hlen (by intro z; exact absurd z.symm (Nat.succ_ne_zero _))
    · refine t_fold_13 hcl S3 I3 J3 w c 0 p0 p1 p2 u hn.1.1.2.2.2 hn.2.2.1 (hn.k33 hc60 hk) hn.2.1 (by omega) hc60 h340 ⟨by omega, by omega⟩ h341 ⟨by omega, by omega⟩ h342 ⟨by omega, by omega⟩ h46 h35 h47 (fun S4 I4 h => ?_)
      exact mk_ask ih (hG _ (by rw [hT, sr_f3_cons]; rfl)) hn h.1 h.2 hqp2 ⟨by omega, by omega⟩ hn7 hwq hM2 hn.BC sr_f3_c (im (Nat.succ.inj hlen) hx3 hy3 h35 rfl rfl rfl hu hR3 hQ3 rfl)
/-- the elements one after the other: p0 was asked, p1 waits -/
theorem a_fol2 (hcl : ms_cl l E a ad RW) (ih : mk_A RW cb bg N b0 pb n) (hc60 : c < 60) (hce : c < e) (hwq : w + 1 + q ≤ 13) (hn7 : q + 7 ≤ n) (hk : cb c = 14) (hp0 : p0 = bg (c * 3 + 0)) (hp1 : p1 = bg (c * 3 + 1)) (hp2 : p2 = bg (c * 3 + 2)) (h60 : p0 < 60 ∧ p1 < 60 ∧ p2 < 60) (hqp0 : qn cb bg N q p0 ep0) (hqp1 : qn cb bg N q p1 ep1) (hqp2 : qn cb bg N q p2 ep2) (hcp : c < p0 ∧ c < p1 ∧ c < p2 ∧ ep0 ≤ e ∧ ep1 ≤ e ∧ ep2 ≤ e) (hap : ep0 ≤ p1 ∧ ep0 ≤ p2 ∧ ep1 ≤ p2) : ∀ (m : Nat) {Q : sr}, Q.1.length = m → ∀ {φ nv np : Nat} {T : sr} {C' : Nat → Int32} {S S1 : Nat → Int32} {I I1 : mo_I} {J : mo_J} {v : vt} {vu : Nat}, mx I J b0 nv pb np 36 c X → mx I J b0 nv pb np 37 c Y → C' 35 = 2 → C' 36 = I 36 c → C' 37 = I 37 c → C' 38 = nI vu → mw I J b0 nv pb np vu v → msh cb bg I J b0 nv pb np n p1 R → T = sr_fo (sr_fin (fun v x => sr_D cb bg n p2 v x) v Q) (sr_fol (sr_D cb bg n p0 X Y) (fun v x => sr_D cb bg n p2 v x) R) → mk_K RW cb bg b0 pb n c e w B C B C p0 ep0 T Q φ nv np C' S I J S1 I1 := by
  have l0 := hqp0.lt
  have l1 := hqp1.lt
  have l2 := hqp2.lt
  intro m
  induction m with
  | zero =>
    intro Q hlen φ nv np T C' S S1 I I1 J v vu hx hy c35 c36 c37 c38 hvu hR hT S3 I3 J3 nv3 np3 hn hl hM hcel hF hF1 hG hE
    have hx3 : mx I3 J3 b0 nv3 pb np3 36 c X := hx.keep ((hcel 36 (by decide) (by decide)).trans c36) hM hl.1 hl.2.1 hn.p8
    have hy3 : mx I3 J3 b0 nv3 pb np3 37 c Y := hy.keep ((hcel 37 (by decide) (by decide)).trans c37) hM hl.1 hl.2.1 hn.p8
    have h340 : I3 34 (3 * c) = nI p0 := by rw [hp0]; exact hn.k34 hc60 0 (by decide)
    have h341 : I3 34 (3 * c + 1) = nI p1 := by rw [hp1]; exact hn.k34 hc60 1 (by decide)
    have h342 : I3 34 (3 * c + 2) = nI p2 := by rw [hp2]; exact hn.k34 hc60 2 (by decide)
    have h35 : I3 35 c = 2 := (hcel 35 (by decide) (by decide)).trans c35
    have h38 : I3 38 c = nI vu := (hcel 38 (by decide) (by decide)).trans c38
    have hvu3 := hvu.keep hM hl.1 hl.2.1 hn.p8
    have hR3 : msh cb bg I3 J3 b0 nv3 pb np3 n p1 R := msh.keep hM hl.1 hl.2.1 hn.p8 hR hqp1 (hF.eq (fun j h1 h2 => by omega))
    rcases hE with ⟨d, rfl, h46⟩ | ⟨d, rfl, h46⟩ | ⟨d, x, M2, u, rfl, h46, h47, hu, hM2⟩
    · refine t_fold_22 hcl S3 I3 J3 w c 0 p0 p1 p2 hn.1.1.2.2.2 hn.2.2.1 (hn.k33 hc60 hk) hn.2.1 (by omega) hc60 h340 ⟨by omega, by omega⟩ h341 ⟨by omega, by omega⟩ h342 ⟨by omega, by omega⟩ h46 h35 (fun S4 I4 h => ?_)
      obtain ⟨h1, h2⟩ := h
      rw [h38] at h2
      refine (hG (sr_cons 0 v (sr_fol (sr_D cb bg n p0 X Y) (fun v x => sr_D cb bg n p2 v x) R)) (by rw [hT]; rfl)).vals hn h1 h2 hce hvu3 (msh_mk h1 hx3 hy3 rfl rfl hn.p8 ((mb_14 hk _).mpr ⟨?_, R, ?_, by rw [hp0, hp2]⟩))
      · exact h1.at 35 (by decide) (by decide)
      · rw [← hp1]; exact hR3.turn h1 hqp1 (by omega) hn.p8
    · exact t_fold_3 hcl S3 I3 J3 w c 0 p0 p1 p2 hn.1.1.2.2.2 hn.2.2.1 (hn.k33 hc60 hk) hn.2.1 (by omega) hc60 h340 ⟨by omega, by omega⟩ h341 ⟨by omega, by omega⟩ h342 ⟨by omega, by omega⟩ h46 (fun S4 I4 h => (hG (sr_fail 0) (by rw [hT]; rfl)).fails hn h.1 h.2 hce)
    · exact absurd hlen (Nat.succ_ne_zero _)
  | succ m im =>
    intro Q hlen φ nv np T C' S S1 I I1 J v vu hx hy c35 c36 c37 c38 hvu hR hT S3 I3 J3 nv3 np3 hn hl hM hcel hF hF1 hG hE
    have hx3 : mx I3 J3 b0 nv3 pb np3 36 c X := hx.keep ((hcel 36 (by decide) (by decide)).trans c36) hM hl.1 hl.2.1 hn.p8
    have hy3 : mx I3 J3 b0 nv3 pb np3 37 c Y := hy.keep ((hcel 37 (by decide) (by decide)).trans c37) hM hl.1 hl.2.1 hn.p8
    have h340 : I3 34 (3 * c) = nI p0 := by rw [hp0]; exact hn.k34 hc60 0 (by decide)
    have h341 : I3 34 (3 * c + 1) = nI p1 := by rw [hp1]; exact hn.k34 hc60 1 (by decide)
    have h342 : I3 34 (3 * c + 2) = nI p2 := by rw [hp2]; exact hn.k34 hc60 2 (by decide)
    have h35 : I3 35 c = 2 := (hcel 35 (by decide) (by decide)).trans c35
    have h38 : I3 38 c = nI vu := (hcel 38 (by decide) (by decide)).trans c38
    have hvu3 := hvu.keep hM hl.1 hl.2.1 hn.p8
    have hR3 : msh cb bg I3 J3 b0 nv3 pb np3 n p1 R := msh.keep hM hl.1 hl.2.1 hn.p8 hR hqp1 (hF.eq (fun j h1 h2 => by omega))
    rcases hE with ⟨d, rfl, h46⟩ | ⟨d, rfl, h46⟩ | ⟨d, x, Q2, u, rfl, h46, h47, hu, hQ2⟩
    · exact absurd hlen (by intro z; exact absurd z.symm (Nat.succ_ne_zero _))
    · exact absurd hlen (by intro z; exact absurd z.symm (Nat.succ_ne_zero _))
    · refine t_fold_12 hcl S3 I3 J3 w c _ p0 p1 p2 u hn.1.1.2.2.2 hn.2.2.1 (hn.k33 hc60 hk) hn.2.1 (by omega) hc60 hn.1.1.2.2.1 hn.1.2.1.1 h340 ⟨by omega, by omega⟩ h341 ⟨by omega, by omega⟩ h342 ⟨by omega, by omega⟩ h46 h35 h47 (fun S4 I4 h => ?_)
      exact mk_enter ih (hG _ (by rw [hT, sr_fin_o]; rfl)) hn h.1 h.2 h38 rfl hvu3 hu hqp2 ⟨by omega, by omega⟩ hn7 hwq hn.BC sr_f3_c (a_fol3 hcl ih hc60 hce hwq hn7 hk hp0 hp1 hp2 h60 hqp0 hqp1 hqp2 hcp hap (im (Nat.succ.inj hlen)) _ (lu := 0) rfl hx3 hy3 rfl rfl rfl rfl hn.1.2.2.1.1 hR3 hQ2 rfl)
/-- p1 was asked: from each of its values a fold begins -/
theorem a_14 (hcl : ms_cl l E a ad RW) (ih : mk_A RW cb bg N b0 pb n) (hc60 : c < 60) (hce : c < e) (hwq : w + 1 + q ≤ 13) (hn7 : q + 7 ≤ n) (hk : cb c = 14) (hp0 : p0 = bg (c * 3 + 0)) (hp1 : p1 = bg (c * 3 + 1)) (hp2 : p2 = bg (c * 3 + 2)) (h60 : p0 < 60 ∧ p1 < 60 ∧ p2 < 60) (hqp0 : qn cb bg N q p0 ep0) (hqp1 : qn cb bg N q p1 ep1) (hqp2 : qn cb bg N q p2 ep2) (hcp : c < p0 ∧ c < p1 ∧ c < p2 ∧ ep0 ≤ e ∧ ep1 ≤ e ∧ ep2 ≤ e) (hap : ep0 ≤ p1 ∧ ep0 ≤ p2 ∧ ep1 ≤ p2) (hx : mx I J b0 nv pb np 36 c X) (hy : mx I J b0 nv pb np 37 c Y) (c35 : C' 35 = 1) (c36 : C' 36 = I 36 c) (c37 : C' 37 = I 37 c) (hT : T = sr_fol (sr_D cb bg n p0 X Y) (fun v x => sr_D cb bg n p2 v x) P) : mk_K RW cb bg b0 pb n c e w B C B C p1 ep1 T P φ nv np C' S I J S1 I1 := by
  have l0 := hqp0.lt
  have l1 := hqp1.lt
  have l2 := hqp2.lt
  intro S3 I3 J3 nv3 np3 hn hl hM hcel hF hF1 hG hE
  have hx3 : mx I3 J3 b0 nv3 pb np3 36 c X := hx.keep ((hcel 36 (by decide) (by decide)).trans c36) hM hl.1 hl.2.1 hn.p8
  have hy3 : mx I3 J3 b0 nv3 pb np3 37 c Y := hy.keep ((hcel 37 (by decide) (by decide)).trans c37) hM hl.1 hl.2.1 hn.p8
  have h340 : I3 34 (3 * c) = nI p0 := by rw [hp0]; exact hn.k34 hc60 0 (by decide)
  have h341 : I3 34 (3 * c + 1) = nI p1 := by rw [hp1]; exact hn.k34 hc60 1 (by decide)
  have h342 : I3 34 (3 * c + 2) = nI p2 := by rw [hp2]; exact hn.k34 hc60 2 (by decide)
  have h35 : I3 35 c = 1 := (hcel 35 (by decide) (by decide)).trans c35
  rcases hE with ⟨d, rfl, h46⟩ | ⟨d, rfl, h46⟩ | ⟨d, x, R, u, rfl, h46, h47, hu, hR⟩
  · exact t_fold_21 hcl S3 I3 J3 w c 0 p0 p1 p2 hn.1.1.2.2.2 hn.2.2.1 (hn.k33 hc60 hk) hn.2.1 (by omega) hc60 h340 ⟨by omega, by omega⟩ h341 ⟨by omega, by omega⟩ h342 ⟨by omega, by omega⟩ h46 h35 (fun S4 I4 h => (hG (sr_end 0) (by rw [hT]; rfl)).ends hn h.1 h.2 hce)
  · exact t_fold_3 hcl S3 I3 J3 w c 0 p0 p1 p2 hn.1.1.2.2.2 hn.2.2.1 (hn.k33 hc60 hk) hn.2.1 (by omega) hc60 h340 ⟨by omega, by omega⟩ h341 ⟨by omega, by omega⟩ h342 ⟨by omega, by omega⟩ h46 (fun S4 I4 h => (hG (sr_fail 0) (by rw [hT]; rfl)).fails hn h.1 h.2 hce)
  · obtain ⟨v, hit, hO⟩ := hx3
    obtain ⟨z, hel, hY⟩ := hy3
    refine t_fold_11 hcl S3 I3 J3 w c _ p0 p1 p2 u hn.1.1.2.2.2 hn.2.2.1 (hn.k33 hc60 hk) hn.2.1 (by omega) hc60 hn.1.1.2.2.1 hn.1.2.1.1 h340 ⟨by omega, by omega⟩ h341 ⟨by omega, by omega⟩ h342 ⟨by omega, by omega⟩ h46 h35 h47 (fun S4 I4 h => ?_)
    exact mk_enter ih (hG _ (by rw [hT, sr_fol_o]; rfl)) hn h.1 h.2 hit hel hO hY hqp0 ⟨by omega, by omega⟩ hn7 hwq hn.BC sr_fo_c (a_fol2 hcl ih hc60 hce hwq hn7 hk hp0 hp1 hp2 h60 hqp0 hqp1 hqp2 hcp hap _ rfl ⟨v, hit, hO⟩ ⟨z, hel, hY⟩ rfl rfl rfl rfl hu hR rfl)
theorem s_14 (hcl : ms_cl l E a ad RW) (hN : N ≤ 60) (ih : mk_A RW cb bg N b0 pb n) (hq : qn cb bg N (q + 1) c e) (hn7 : q + 7 ≤ n) (hwq : w + 1 + q ≤ 13) (hn : mn cb bg b0 pb B C w c S I J φ nv np) (h46 : S 46 = 0) (hk : cb c = 14) (hH : mk_H cb bg I J b0 nv pb np (n + 1) c T φ B C) (hG : mk_G RW cb bg b0 pb (n + 1) c e T φ w B C nv np S I J) : RW S I J := by
  obtain ⟨⟨q1, q2, -⟩, en, hch, happ⟩ := qn_o.mp hq
  have hq3 : qy_parts (cb c) = 3 := by rw [hk]; decide
  obtain ⟨k1, k2, k3⟩ := hch 0 (by omega)
  obtain ⟨j1, j2, j3⟩ := hch 1 (by omega)
  obtain ⟨i1, i2, i3⟩ := hch 2 (by omega)
  have k4 := k3.lt
  have j4 := j3.lt
  have i4 := i3.lt
  have hc60 : c < 60 := by omega
  have hap : en 0 ≤ bg (c * 3 + 1) ∧ en 0 ≤ bg (c * 3 + 2) ∧ en 1 ≤ bg (c * 3 + 2) := ⟨happ 0 1 (by decide) (by omega), happ 0 2 (by decide) (by omega), happ 1 2 (by decide) (by omega)⟩
  have h340 : I 34 (3 * c) = nI (bg (c * 3 + 0)) := hn.k34 hc60 0 (by decide)
  have h341 : I 34 (3 * c + 1) = nI (bg (c * 3 + 1)) := hn.k34 hc60 1 (by decide)
  have h342 : I 34 (3 * c + 2) = nI (bg (c * 3 + 2)) := hn.k34 hc60 2 (by decide)
  rcases hH with ⟨h35, ⟨X, Y, ⟨v, hit, hO⟩, ⟨x, hel, hY⟩, hT⟩, hB⟩ | hS
  · have hT : T = sr_fol (sr_D cb bg n (bg (c * 3 + 0)) X Y) (fun v x => sr_D cb bg n (bg (c * 3 + 2)) v x) (sr_D cb bg n (bg (c * 3 + 1)) X Y) := by
      rw [hT, sr_B_o]; unfold sr_part
      rw [if_neg (by omega), if_neg (by omega), if_neg (by omega), if_neg (by omega), if_neg (by omega), if_neg (by omega), if_neg (by omega), if_pos hk]
    refine t_fold_00 hcl S I J w c φ (bg (c * 3 + 0)) (bg (c * 3 + 1)) (bg (c * 3 + 2)) hn.1.1.2.2.2 hn.2.2.1 (hn.k33 hc60 hk) hn.2.1 (by omega) hc60 hn.1.1.2.2.1 hn.1.2.1.1 h340 ⟨k1, by omega⟩ h341 ⟨j1, by omega⟩ h342 ⟨i1, by omega⟩ h46 h35 (fun S2 I2 h => ?_)
    exact mk_enter ih hG hn h.1 h.2 hit hel hO hY j3 ⟨j1, j2⟩ hn7 hwq hn.BC (by rw [hT]; exact sr_fol_c) (a_14 hcl ih hc60 q1 hwq hn7 hk rfl rfl rfl ⟨by omega, by omega, by omega⟩ k3 j3 i3 ⟨k1, j1, i1, k2, j2, i2⟩ hap ⟨v, hit, hO⟩ ⟨x, hel, hY⟩ rfl rfl rfl hT)
  · obtain ⟨X, Y, hx, hy, hb⟩ := msh_o.mp hS
    obtain ⟨h35, P, hP, hT⟩ := (mb_14 hk T).mp hb
    refine t_fold_04 hcl S I J w c φ (bg (c * 3 + 0)) (bg (c * 3 + 1)) (bg (c * 3 + 2)) hn.1.1.2.2.2 hn.2.2.1 (hn.k33 hc60 hk) hn.2.1 (by omega) hc60 h340 ⟨k1, by omega⟩ h341 ⟨j1, by omega⟩ h342 ⟨i1, by omega⟩ h46 h35 (fun S2 I2 h => ?_)
    exact mk_ask ih hG hn h.1 h.2 j3 ⟨j1, j2⟩ hn7 hwq hP hn.BC (by rw [hT]; exact sr_fol_c) (a_14 hcl ih hc60 q1 hwq hn7 hk rfl rfl rfl ⟨by omega, by omega, by omega⟩ k3 j3 i3 ⟨k1, j1, i1, k2, j2, i2⟩ hap hx hy rfl rfl rfl hT)
end
