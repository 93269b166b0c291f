/-! Asking: from what a part's own part answers to what the part answers. -/
theorem mfr.mono {D D2 : Nat → Prop} {w : Nat} {S S2 : Nat → Int32} {I I2 : mo_I} (h : mfr D w S I S2 I2) (hD : ∀ j, D j → D2 j) : mfr D2 w S I S2 I2 :=
  ⟨h.1, h.2.1, h.2.2.1, fun k a b j hj => h.2.2.2.1 k a b j (fun z => hj (hD j z)), fun k a b j hj => h.2.2.2.2 k a b j (fun z => hj (hD _ z))⟩
theorem mfr.rf {D : Nat → Prop} {w : Nat} {S : Nat → Int32} {I : mo_I} : mfr D w S I S I := ⟨fun _ _ => rfl, ⟨rfl, rfl, rfl, rfl, rfl⟩, fun _ _ => rfl, fun _ _ _ _ _ => rfl, fun _ _ _ _ _ => rfl⟩
/-- the part c is on the path, w below it, and there is room -/
def mn (cb bg : Nat → Nat) (b0 pb B C w c : Nat) (S : Nat → Int32) (I : mo_I) (J : mo_J) (φ nv np : Nat) : Prop := mz cb bg b0 pb S I J φ nv np ∧ S 45 = nI (w + 1) ∧ I 44 w = nI c ∧ (nv + φ ≤ B ∧ np + 32 * φ ≤ C) ∧ B ≤ 759 ∧ C ≤ 8768
theorem mn.p8 {cb bg : Nat → Nat} {b0 pb B C w c : Nat} {S : Nat → Int32} {I : mo_I} {J : mo_J} {φ nv np : Nat} (h : mn cb bg b0 pb B C w c S I J φ nv np) : np ≤ 8800 := by
  have := h.2.2.2.1.2; have := h.2.2.2.2.2; omega
/-- what is to be done: all answers lead on -/
def mk_G (RW : (Nat → Int32) → mo_I → mo_J → Prop) (cb bg : Nat → Nat) (b0 pb n c e : Nat) (T : sr) (φ w B C nv np : Nat) (S : Nat → Int32) (I : mo_I) (J : mo_J) : Prop := ∀ S2 I2 J2, mk_P cb bg b0 pb n c e T φ w B C nv np S I J S2 I2 J2 → RW S2 I2 J2
theorem mk_G.step {RW : (Nat → Int32) → mo_I → mo_J → Prop} {cb bg : Nat → Nat} {b0 pb n c e d φ φ1 w B C nv np nv1 np1 : Nat} {T T1 : sr} {S S1 : Nat → Int32} {I I1 : mo_I} {J J1 : mo_J} (h : mk_G RW cb bg b0 pb n c e T φ w B C nv np S I J) (hf : mfr (fun j => c ≤ j ∧ j < e) w S I S1 I1) (hm : ma I J I1 J1 b0 nv pb np) (hT : T = sr_add d T1) (hd : d ≤ φ) (hφ : φ1 = φ - d) (hn : nv ≤ nv1) (hp : np ≤ np1) : mk_G RW cb bg b0 pb n c e T1 φ1 w B C nv1 np1 S1 I1 J1 := by
  intro S2 I2 J2 hP
  obtain ⟨p1, p2, p3⟩ := hP
  refine h S2 I2 J2 ⟨hf.tr p1 (Nat.le_refl _) (fun _ z => z) (fun _ z => z), hm.tr p2 hn hp, ?_⟩
  have hc : sr_c T = d + sr_c T1 := by rw [hT, sr_c_add]
  rcases p3 with ⟨a1, a2, a3⟩ | ⟨nv2, np2, ⟨b1, b2, b3, b4, b5⟩, a2, a3, a4⟩
  · exact Or.inl ⟨by omega, a2, a3⟩
  · have e1 : φ - sr_c T = φ1 - sr_c T1 := by omega
    refine Or.inr ⟨nv2, np2, ⟨by omega, by omega, by omega, by rw [e1]; exact b4, by rw [e1]; exact b5⟩, a2, by rw [e1]; exact a3, ?_⟩
    rcases a4 with ⟨d1, g1, g2⟩ | ⟨d1, g1, g2⟩ | ⟨d1, x, R, u, g1, g2⟩
    · exact Or.inl ⟨d + d1, by rw [hT, g1]; rfl, g2⟩
    · exact Or.inr (Or.inl ⟨d + d1, by rw [hT, g1]; rfl, g2⟩)
    · exact Or.inr (Or.inr ⟨d + d1, x, R, u, by rw [hT, g1]; rfl, g2⟩)
theorem mct.fr2 {c w e : Nat} {D : Nat → Prop} {C : Nat → Int32} {S S2 : Nat → Int32} {I I2 : mo_I} (h : mct c w D C S I S2 I2) (hce : c < e) (hD : ∀ j, D j → c ≤ j ∧ j < e) : mfr (fun j => c ≤ j ∧ j < e) w S I S2 I2 :=
  h.fr.mono (fun j hj => by rcases hj with rfl | hj; exact ⟨Nat.le_refl _, hce⟩; exact hD j hj)
/-- a turn that leaves the parts as they were: how mn stays -/
theorem mct_mn {cb bg : Nat → Nat} {b0 pb B C w c : Nat} {C' : Nat → Int32} {D : Nat → Prop} {S S2 : Nat → Int32} {I I2 : mo_I} {J : mo_J} {φ nv np : Nat} (h : mct c w D C' S I S2 I2) (hn : mn cb bg b0 pb B C w c S I J φ nv np) (h48 : S2 48 = S 48) (h49 : S2 49 = S 49) : mz cb bg b0 pb S2 I2 J φ nv np :=
  h.mz hn.1 (h48.trans hn.1.1.2.2.1) (h49.trans hn.1.1.2.2.2) (Nat.le_refl _) hn.p8
section
variable {RW : (Nat → Int32) → mo_I → mo_J → Prop} {cb bg : Nat → Nat} {b0 pb n c e φ w B C nv np : Nat} {C' : Nat → Int32} {D : Nat → Prop} {S S2 : Nat → Int32} {I I2 : mo_I} {J : mo_J}
theorem mk_G.ends {g : Int32} (h : mk_G RW cb bg b0 pb n c e (sr_end 0) φ w B C nv np S I J) (hn : mn cb bg b0 pb B C w c S I J φ nv np) (hm : mct c w (fun _ => False) C' S I S2 I2) (ho : oc_t w 2 g S S2) (hce : c < e) : RW S2 I2 J :=
  h S2 I2 J ⟨hm.fr2 hce (fun _ z => z.elim), hm.ma, Or.inr ⟨nv, np, ⟨Nat.le_refl _, Nat.le_refl _, Nat.zero_le _, hn.2.2.2.1⟩, ho.1, mct_mn hm hn ho.2.2.2.1 ho.2.2.2.2, Or.inl ⟨0, rfl, ho.2.1⟩⟩⟩
theorem mk_G.fails {g : Int32} (h : mk_G RW cb bg b0 pb n c e (sr_fail 0) φ w B C nv np S I J) (hn : mn cb bg b0 pb B C w c S I J φ nv np) (hm : mct c w (fun _ => False) C' S I S2 I2) (ho : oc_t w 3 g S S2) (hce : c < e) : RW S2 I2 J :=
  h S2 I2 J ⟨hm.fr2 hce (fun _ z => z.elim), hm.ma, Or.inr ⟨nv, np, ⟨Nat.le_refl _, Nat.le_refl _, Nat.zero_le _, hn.2.2.2.1⟩, ho.1, mct_mn hm hn ho.2.2.2.1 ho.2.2.2.2, Or.inr (Or.inl ⟨0, rfl, ho.2.1⟩)⟩⟩
theorem mk_G.vals {x : vt} {R : sr} {u : Nat} (h : mk_G RW cb bg b0 pb n c e (sr_cons 0 x R) φ w B C nv np S I J) (hn : mn cb bg b0 pb B C w c S I J φ nv np) (hm : mct c w (fun _ => False) C' S I S2 I2) (ho : oc_t w 1 (nI u) S S2) (hce : c < e) (hu : mw I J b0 nv pb np u x) (hR : msh cb bg I2 J b0 nv pb np n c R) : RW S2 I2 J :=
  h S2 I2 J ⟨hm.fr2 hce (fun _ z => z.elim), hm.ma, Or.inr ⟨nv, np, ⟨Nat.le_refl _, Nat.le_refl _, Nat.zero_le _, hn.2.2.2.1⟩, ho.1, mct_mn hm hn ho.2.2.2.1 ho.2.2.2.2, Or.inr (Or.inr ⟨0, x, R, u, rfl, ho.2.1, ho.2.2.1, hu.keep hm.ma (Nat.le_refl _) (Nat.le_refl _) hn.p8, hR⟩)⟩⟩
theorem mk_G.starves {T : sr} (h : mk_G RW cb bg b0 pb n c e T φ w B C nv np S I J) (hn : mn cb bg b0 pb B C w c S I J φ nv np) (hm : mct c w D C' S I S2 I2) (h49 : S2 49 = 2) (h48 : S2 48 = S 48) (hφ : φ = 0) (hT : 0 < sr_c T) (hce : c < e) (hD : ∀ j, D j → c ≤ j ∧ j < e) : RW S2 I2 J :=
  h S2 I2 J ⟨hm.fr2 hce hD, hm.ma, Or.inl ⟨by omega, h49, by rw [h48, hn.1.1.2.2.1, hφ]; rfl⟩⟩
end
/-- an answer as a stream, with what is left -/
def sr_o (o : Option vt) (R : sr) : sr := match o with
  | none => sr_fail 0
  | some v => sr_cons 0 v R
theorem mo_un.fr {D : Nat → Prop} {w : Nat} {S S2 : Nat → Int32} {I I2 : mo_I} (h : mo_un S I S2 I2) : mfr D w S I S2 I2 :=
  ⟨fun k hk => h.1 k (by omega) (by omega) (by omega) (by omega) (by omega) (by omega), ⟨h.2 33 (by omega), h.2 34 (by omega), h.2 50 (by omega), h.2 19 (by omega), h.2 29 (by omega)⟩, fun j _ => congrFun (h.2 44 (by omega)) j, fun k a b j _ => congrFun (h.2 k (by omega)) j, fun k a b j _ => congrFun (h.2 k (by omega)) j⟩
theorem mk_G.mr {RW : (Nat → Int32) → mo_I → mo_J → Prop} {cb bg : Nat → Nat} {b0 pb n c e φ w B C nv np : Nat} {S S2 : Nat → Int32} {I I2 : mo_I} {J J2 : mo_J} {o : Option vt} {R : sr} (h : mk_G RW cb bg b0 pb n c e (sr_o o R) φ w B C nv np S I J) (hz : mz cb bg b0 pb S I J φ nv np) (hb : nv + φ + 1 ≤ B ∧ np + 32 * (φ + 1) ≤ C) (hA : mr_A o S I J b0 nv pb np w S2 I2 J2) (hR : ∀ nv2 np2, (∀ k, (33 ≤ k ∧ k ≤ 44) ∨ k = 50 ∨ k = 19 ∨ k = 29 → I2 k = I k) → ma I J I2 J2 b0 nv pb np → nv ≤ nv2 → np ≤ np2 → np2 ≤ 8800 → msh cb bg I2 J2 b0 nv2 pb np2 n c R) : RW S2 I2 J2 := by
  obtain ⟨hu, hm, h45, nv2, np2, ⟨a1, a2, a3, a4, a5⟩, h11, h12, ho⟩ := hA
  obtain ⟨⟨z1, z2, z3, z4⟩, ⟨y1, y2, y3, y4⟩, hc, h33, h34⟩ := hz
  have hz2 : mz cb bg b0 pb S2 I2 J2 φ nv2 np2 := ⟨⟨h11, h12, (hu.1 48 (by decide) (by decide) (by decide) (by decide) (by decide) (by decide)).trans z3, (hu.1 49 (by decide) (by decide) (by decide) (by decide) (by decide) (by decide)).trans z4⟩, ⟨y1, by omega, by omega, by omega⟩, hc.keep hm a1 a3 a5, fun j hj => by rw [hu.2 33 (by omega)]; exact h33 j hj, fun j hj => by rw [hu.2 34 (by omega)]; exact h34 j hj⟩
  refine h S2 I2 J2 ⟨hu.fr, hm, Or.inr ⟨nv2, np2, ?_⟩⟩
  cases o with
  | none => exact ⟨⟨a1, a3, Nat.zero_le _, by show nv2 + φ ≤ B; omega, by show np2 + 32 * φ ≤ C; omega⟩, h45, hz2, Or.inr (Or.inl ⟨0, rfl, ho⟩)⟩
  | some v =>
    obtain ⟨o1, u, o2, o3⟩ := ho
    exact ⟨⟨a1, a3, Nat.zero_le _, by show nv2 + φ ≤ B; omega, by show np2 + 32 * φ ≤ C; omega⟩, h45, hz2, Or.inr (Or.inr ⟨0, v, R, u, rfl, o1, o2, o3, hR nv2 np2 hu.2 hm a1 a3 a5⟩)⟩
/-- what a part's own part p answered, with the fuel that is left -/
def mk_E (cb bg : Nat → Nat) (b0 pb n p : Nat) (P : sr) (S : Nat → Int32) (I : mo_I) (J : mo_J) (nv np : Nat) : Prop := (∃ d, P = sr_end d ∧ S 46 = 2) ∨ (∃ d, P = sr_fail d ∧ S 46 = 3) ∨ ∃ d x R u, P = sr_cons d x R ∧ S 46 = 1 ∧ S 47 = nI u ∧ mw I J b0 nv pb np u x ∧ msh cb bg I J b0 nv pb np n p R
/-- where the part p was asked by c after the turn to (S1, I1): all that may come leads on -/
def mk_K (RW : (Nat → Int32) → mo_I → mo_J → Prop) (cb bg : Nat → Nat) (b0 pb n c e w B C B1 C1 p ep : Nat) (T P : sr) (φ nv np : Nat) (C' : Nat → Int32) (S : Nat → Int32) (I : mo_I) (J : mo_J) (S1 : Nat → Int32) (I1 : mo_I) : Prop := ∀ S3 I3 J3 nv3 np3, mn cb bg b0 pb B1 C1 w c S3 I3 J3 (φ - sr_c P) nv3 np3 → (nv ≤ nv3 ∧ np ≤ np3 ∧ sr_c P ≤ φ) → ma I J I3 J3 b0 nv pb np → (∀ k, 35 ≤ k → k ≤ 40 → I3 k c = C' k) → mfr (fun j => j = c ∨ (p ≤ j ∧ j < ep)) w S I S3 I3 → mfr (fun j => p ≤ j ∧ j < ep) (w + 1) S1 I1 S3 I3 → (∀ T3, T = sr_add (sr_c P) T3 → mk_G RW cb bg b0 pb (n + 1) c e T3 (φ - sr_c P) w B C nv3 np3 S3 I3 J3) → mk_E cb bg b0 pb n p P S3 I3 J3 nv3 np3 → RW S3 I3 J3
theorem mk_ch {RW : (Nat → Int32) → mo_I → mo_J → Prop} {cb bg : Nat → Nat} {N b0 pb n c e w B C B1 C1 p ep q φ nv np d0 : Nat} {D : Nat → Prop} {T P P0 : sr} {C' : Nat → Int32} {S S1 : Nat → Int32} {I I1 : mo_I} {J : mo_J} (ih : mk_A RW cb bg N b0 pb n) (hG : mk_G RW cb bg b0 pb (n + 1) c e T φ w B C nv np S I J) (hm : mct c w D C' S I S1 I1) (hD : ∀ j, D j → j = p) (hd0 : d0 ≤ φ) (hz1 : mz cb bg b0 pb S1 I1 J (φ - d0) nv np) (h45 : S1 45 = nI (w + 2)) (h46 : S1 46 = 0) (hpt : I1 44 (w + 1) = nI p) (hcw : I 44 w = nI c) (hqp : qn cb bg N q p ep) (hcp : c < p ∧ ep ≤ e) (hn7 : q + 7 ≤ n) (hwq : w + 1 + q ≤ 13) (hP0 : mk_H cb bg I1 J b0 nv pb np n p P0 (φ - d0) B1 C1) (hb : nv + (φ - d0) ≤ B1 ∧ np + 32 * (φ - d0) ≤ C1) (hB : B1 ≤ B ∧ C1 ≤ C ∧ B ≤ 759 ∧ C ≤ 8768) (hP : P = sr_add d0 P0) (hs : sr_c P ≤ sr_c T) (k : mk_K RW cb bg b0 pb n c e w B C B1 C1 p ep T P φ nv np C' S I J S1 I1) : RW S1 I1 J := by
  have hpe := hqp.lt
  refine ih S1 I1 J (w + 1) q p ep P0 (φ - d0) nv np B1 C1 hqp hn7 hwq hz1 h45 hpt h46 hP0 hb (by omega) (by omega) (fun S3 I3 J3 hP3 => ?_)
  obtain ⟨f1, f2, f3⟩ := hP3
  have hcc : sr_c P = d0 + sr_c P0 := by rw [hP, sr_c_add]
  have hF : mfr (fun j => j = c ∨ (p ≤ j ∧ j < ep)) w S I S3 I3 := hm.fr.tr f1 (by omega) (fun j hj => by rcases hj with hj | hj; exact Or.inl hj; exact Or.inr (by have := hD j hj; omega)) (fun j hj => Or.inr hj)
  have hF2 : mfr (fun j => c ≤ j ∧ j < e) w S I S3 I3 := hF.mono (fun j hj => by omega)
  have hM : ma I J I3 J3 b0 nv pb np := hm.ma.tr f2 (Nat.le_refl _) (Nat.le_refl _)
  rcases f3 with ⟨a1, a2, a3⟩ | ⟨nv3, np3, ⟨b1, b2, b3, b4, b5⟩, a2, a3, a4⟩
  · exact hG S3 I3 J3 ⟨hF2, hM, Or.inl ⟨by omega, a2, a3⟩⟩
  · have e1 : φ - d0 - sr_c P0 = φ - sr_c P := by omega
    rw [e1] at b4 b5 a3
    refine k S3 I3 J3 nv3 np3 ⟨a3, a2, by rw [hF.2.2.1 w (Nat.le_refl _)]; exact hcw, ⟨b4, b5⟩, by omega, by omega⟩ ⟨b1, b2, by omega⟩ hM (fun k h1 h2 => ?_) hF f1 (fun T3 hT3 => hG.step hF2 hM hT3 (by omega) rfl b1 b2) ?_
    · rw [f1.2.2.2.1 k h1 h2 c (by omega)]; exact (hm.2.2.2.2 k h1 h2).2
    · rcases a4 with ⟨d1, g1, g2⟩ | ⟨d1, g1, g2⟩ | ⟨d1, x, R, u, g1, g2⟩
      · exact Or.inl ⟨d0 + d1, by rw [hP, g1]; rfl, g2⟩
      · exact Or.inr (Or.inl ⟨d0 + d1, by rw [hP, g1]; rfl, g2⟩)
      · exact Or.inr (Or.inr ⟨d0 + d1, x, R, u, by rw [hP, g1]; rfl, g2⟩)
/-- what a part shows stays over a turn of another part -/
theorem msh.turn {cb bg : Nat → Nat} {N b0 nv pb np n p ep q c w : Nat} {C' : Nat → Int32} {S S2 : Nat → Int32} {I I2 : mo_I} {J : mo_J} {R : sr} (h : msh cb bg I J b0 nv pb np n p R) (hm : mct c w (fun _ => False) C' S I S2 I2) (hq : qn cb bg N q p ep) (hcp : c < p) (hp8 : np ≤ 8800) : msh cb bg I2 J b0 nv pb np n p R :=
  msh.keep hm.ma (Nat.le_refl _) (Nat.le_refl _) hp8 h hq (hm.fr.eq (fun j a b z => by rcases z with z | z; omega; exact z))
section
variable {RW : (Nat → Int32) → mo_I → mo_J → Prop} {cb bg : Nat → Nat} {N b0 pb n c e w B C B1 C1 p ep q φ nv np : Nat} {T P : sr} {C' : Nat → Int32} {S S1 : Nat → Int32} {I I1 : mo_I} {J : mo_J}
theorem mk_ask (ih : mk_A RW cb bg N b0 pb n) (hG : mk_G RW cb bg b0 pb (n + 1) c e T φ w B C nv np S I J) (hn : mn cb bg b0 pb B1 C1 w c S I J φ nv np) (hm : mct c w (fun _ => False) C' S I S1 I1) (ho : oc_a w p S S1 I1) (hqp : qn cb bg N q p ep) (hcp : c < p ∧ ep ≤ e) (hn7 : q + 7 ≤ n) (hwq : w + 1 + q ≤ 13) (hP : msh cb bg I J b0 nv pb np n p P) (hB : B1 ≤ B ∧ C1 ≤ C ∧ B ≤ 759 ∧ C ≤ 8768) (hs : sr_c P ≤ sr_c T) (k : mk_K RW cb bg b0 pb n c e w B C B1 C1 p ep T P φ nv np C' S I J S1 I1) : RW S1 I1 J :=
  mk_ch (d0 := 0) ih hG hm (fun _ z => z.elim) (Nat.zero_le _) (mct_mn hm hn ho.2.2.1 ho.2.2.2.1) ho.1 ho.2.1 ho.2.2.2.2 hn.2.2.1 hqp hcp hn7 hwq (Or.inr (hP.turn hm hqp hcp.1 hn.p8)) hn.2.2.2.1 hB sr_add_0.symm hs k
theorem mk_enter {v x : Nat} {X Y : vt} {vi xi : Int32} (ih : mk_A RW cb bg N b0 pb n) (hG : mk_G RW cb bg b0 pb (n + 1) c e T φ w B C nv np S I J) (hn : mn cb bg b0 pb B1 C1 w c S I J φ nv np) (hm : mct c w (fun j => j = p) C' S I S1 I1) (ho : oc_e w p vi xi φ S S1 I1) (hvi : vi = nI v) (hxi : xi = nI x) (hv : mw I J b0 nv pb np v X) (hx : mw I J b0 nv pb np x Y) (hqp : qn cb bg N q p ep) (hcp : c < p ∧ ep ≤ e) (hn7 : q + 7 ≤ n) (hwq : w + 1 + q ≤ 13) (hB : B1 ≤ B ∧ C1 ≤ C ∧ B ≤ 759 ∧ C ≤ 8768) (hs : sr_c (sr_D cb bg n p X Y) ≤ sr_c T) (k : mk_K RW cb bg b0 pb n c e w B C B1 C1 p ep T (sr_D cb bg n p X Y) φ nv np C' S I J S1 I1) : RW S1 I1 J := by
  have hpe := hqp.lt
  have h1 : 1 ≤ sr_c (sr_D cb bg n p X Y) := by rw [sr_c_add]; omega
  rcases ho with ⟨o1, o2, o3⟩ | ⟨o1, o2, o3, o4, o5, o6, o7, o8, o9⟩
  · exact hG S1 I1 J ⟨hm.fr2 (by omega) (fun j hj => by omega), hm.ma, Or.inl ⟨by omega, o2, by rw [o3, hn.1.1.2.2.1, o1]; rfl⟩⟩
  · have hmz : mz cb bg b0 pb S1 I1 J (φ - 1) nv np := hm.mz hn.1 o4 (o5.trans hn.1.1.2.2.2) (by omega) hn.p8
    have hb := hn.2.2.2.1
    refine mk_ch (d0 := 1) ih hG hm (fun _ z => z) o1 hmz o2 o3 o6 hn.2.2.1 hqp hcp hn7 hwq (Or.inl ⟨o7, ⟨X, Y, ⟨v, o8.trans hvi, hv.keep hm.ma (Nat.le_refl _) (Nat.le_refl _) hn.p8⟩, ⟨x, o9.trans hxi, hx.keep hm.ma (Nat.le_refl _) (Nat.le_refl _) hn.p8⟩, rfl⟩, by omega, by omega⟩) (by omega) hB rfl hs k
end
