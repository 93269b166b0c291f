/-! two of the model: for each value of the one part another part begins. -/
theorem mb_two {cb bg : Nat → Nat} {b0 nv pb np n c : Nat} {I : mo_I} {J : mo_J} {K : Nat → sr → Prop} {X Y : vt} (hk : cb c = 8 ∨ cb c = 11 ∨ 22 ≤ cb c) (T : sr) : mb cb bg K I J b0 nv pb np n c T X Y ↔ ∃ (ph : Nat) (P R : sr) (x : vt), (ph = 1 ∨ (ph = 2 ∧ cb c = 11)) ∧ I 35 c = nI (ph + 1) ∧ mx I J b0 nv pb np 38 c x ∧ K (bg (c * 3 + 0)) P ∧ K (bg (c * 3 + ph)) R ∧ T = sr_seq (sr_op (sr_e (cb c)) (sr_h (cb c) x) R) (sr_bind (sr_GG cb c (fun i Z W => sr_D cb bg n (bg (c * 3 + i)) Z W) X Y) P) := by
  unfold mb; rw [if_neg (by omega), if_neg (by omega), if_pos hk]
theorem sr_seq_o {o : Option vt} {R U : sr} : sr_seq (sr_o o R) U = sr_o o (sr_seq R U) := by cases o <;> rfl
theorem sr_h_lt {k : Nat} {x : vt} (h : k < 22) : sr_h k x = fun y => some y := by
  funext y; unfold sr_h; rw [if_pos h]
theorem sr_h_ge {k : Nat} {x y : vt} (h : 22 ≤ k) : sr_h k x y = sr_two k x y := by
  unfold sr_h; rw [if_neg (by omega)]
theorem sr_bind_c {g : vt → sr} {P : sr} : sr_c P ≤ sr_c (sr_bind g P) := by
  rcases sr_cases P with ⟨d, x, R, rfl⟩ | ⟨d, rfl⟩ | ⟨d, rfl⟩
  · rw [sr_bind_cons, sr_c_add]; exact Nat.le_add_right _ _
  · exact Nat.le_refl _
  · exact Nat.le_refl _
section
variable {l : Launch} {E : gh_E} {a : Nat} {ad : Nat → Nat} {RW : (Nat → Int32) → mo_I → mo_J → Prop} {cb bg : Nat → Nat} {N b0 pb n c e w B C q φ nv np p ep p0 ep0 ph xu : Nat} {T P R : sr} {C' : Nat → Int32} {S S1 : Nat → Int32} {I I1 : mo_I} {J : mo_J} {X Y x : vt}
/-- the other part was asked -/
theorem a_two1 (hcl : ms_cl l E a ad RW) (ih : mk_A RW cb bg N b0 pb n) (hc60 : c < 60) (hce : c < e) (hwq : w + 1 + q ≤ 13) (hn7 : q + 7 ≤ n) (hk : cb c = 8 ∨ cb c = 11 ∨ 22 ≤ cb c) (h26 : cb c ≤ 26) (hph : ph = 1 ∨ (ph = 2 ∧ cb c = 11)) (hp0 : p0 = bg (c * 3 + 0)) (hp060 : p0 < 60) (hp : p = bg (c * 3 + ph)) (hqp0 : qn cb bg N q p0 ep0) (hcp0 : c < p0 ∧ ep0 ≤ e) (hap : ep0 ≤ p) (hqp : qn cb bg N q p ep) (hcp : c < p) (hx : mx I J b0 nv pb np 36 c X) (hy : mx I J b0 nv pb np 37 c Y) (c35 : C' 35 = nI (ph + 1)) (c36 : C' 36 = I 36 c) (c37 : C' 37 = I 37 c) (c38 : C' 38 = nI xu) (hxu : mw I J b0 nv pb np xu x) (hR : msh cb bg I J b0 nv pb np n p0 R) (rec : ∀ {φ nv np : Nat} {T : sr} {C' : Nat → Int32} {S S1 : Nat → Int32} {I I1 : mo_I} {J : mo_J}, mx I J b0 nv pb np 36 c X → mx I J b0 nv pb np 37 c Y → C' 35 = 1 → C' 36 = I 36 c → C' 37 = I 37 c → T = sr_bind (sr_GG cb c (fun i Z W => sr_D cb bg n (bg (c * 3 + i)) Z W) X Y) R → mk_K RW cb bg b0 pb n c e w B C B C p0 ep0 T R φ nv np C' S I J S1 I1) (hT : T = sr_seq (sr_op (sr_e (cb c)) (sr_h (cb c) x) P) (sr_bind (sr_GG cb c (fun i Z W => sr_D cb bg n (bg (c * 3 + i)) Z W) X Y) R)) : mk_K RW cb bg b0 pb n c e w B C B C p ep T P φ nv np C' S I J S1 I1 := by
  intro S3 I3 J3 nv3 np3 hn hl hM hcel hF hF1 hG hE
  have hpe := hqp.lt
  have hx3 : mx I3 J3 b0 nv3 pb np3 36 c X := hx.keep ((hcel 36 (by decide) (by decide)).trans c36) hM hl.1 hl.2.1 hn.p8
  have hy3 : mx I3 J3 b0 nv3 pb np3 37 c Y := hy.keep ((hcel 37 (by decide) (by decide)).trans c37) hM hl.1 hl.2.1 hn.p8
  have h34 : I3 34 (3 * c) = nI p0 := by rw [hp0]; exact hn.k34 hc60 0 (by decide)
  have h35 : I3 35 c = nI (ph + 1) := (hcel 35 (by decide) (by decide)).trans c35
  have h38 : I3 38 c = nI xu := (hcel 38 (by decide) (by decide)).trans c38
  have hxu3 : mw I3 J3 b0 nv3 pb np3 xu x := hxu.keep hM hl.1 hl.2.1 hn.p8
  have hR3 : msh cb bg I3 J3 b0 nv3 pb np3 n p0 R := msh.keep hM hl.1 hl.2.1 hn.p8 hR hqp0 (hF.eq (fun j h1 h2 => by omega))
  have hkz : cb c = 8 ∨ cb c = 11 ∨ cb c = 22 ∨ cb c = 23 ∨ cb c = 24 ∨ cb c = 25 ∨ cb c = 26 := by omega
  rcases hE with ⟨d, rfl, h46⟩ | ⟨d, rfl, h46⟩ | ⟨d, y, Q, u, rfl, h46, h47, hu, hQ⟩
  · have go : ∀ S4 I4, mct c w (fun _ => False) (va_up (fun k => I3 k c) 35 1) S3 I3 S4 I4 ∧ oc_a w p0 S3 S4 I4 → RW S4 I4 J3 := fun S4 I4 h =>
      mk_ask ih (hG (sr_bind (sr_GG cb c (fun i Z W => sr_D cb bg n (bg (c * 3 + i)) Z W) X Y) R) (by rw [hT]; rfl)) hn h.1 h.2 hqp0 hcp0 hn7 hwq hR3 hn.BC sr_bind_c (rec hx3 hy3 rfl rfl rfl rfl)
    rcases hph with rfl | ⟨rfl, -⟩
    · exact t_two_22 hcl S3 I3 J3 w c 0 p0 (cb c) hn.1.1.2.2.2 hn.2.2.1 (hn.k33 hc60 rfl) hkz hn.2.1 (by omega) hc60 h34 ⟨hcp0.1, hp060⟩ h46 h35 go
    · exact t_two_23 hcl S3 I3 J3 w c 0 p0 (cb c) hn.1.1.2.2.2 hn.2.2.1 (hn.k33 hc60 rfl) hkz hn.2.1 (by omega) hc60 h34 ⟨hcp0.1, hp060⟩ h46 h35 go
  · exact t_two_3 hcl S3 I3 J3 w c 0 p0 (cb c) hn.1.1.2.2.2 hn.2.2.1 (hn.k33 hc60 rfl) hkz hn.2.1 (by omega) hc60 h34 ⟨hcp0.1, hp060⟩ h46 (fun S4 I4 h => (hG (sr_fail 0) (by rw [hT]; rfl)).fails hn h.1 h.2 hce)
  · by_cases h22 : cb c < 22
    · have he : sr_e (cb c) = 0 := by unfold sr_e; rw [if_pos h22]
      have go : ∀ S4 I4, mct c w (fun _ => False) (fun k => I3 k c) S3 I3 S4 I4 ∧ oc_t w 1 (nI u) S3 S4 → RW S4 I4 J3 := by
        intro S4 I4 h
        obtain ⟨h1, h2⟩ := h
        refine (hG (sr_cons 0 y (sr_seq (sr_op (sr_e (cb c)) (sr_h (cb c) x) Q) (sr_bind (sr_GG cb c (fun i Z W => sr_D cb bg n (bg (c * 3 + i)) Z W) X Y) R))) ?_).vals hn h1 h2 hce hu (msh_mk h1 hx3 hy3 rfl rfl hn.p8 ((mb_two hk _).mpr ⟨ph, R, Q, x, hph, ?_, ?_, ?_, ?_, rfl⟩))
        · rw [hT, he, sr_h_lt h22]; rfl
        · exact (h1.at 35 (by decide) (by decide)).trans h35
        · exact ⟨xu, (h1.at 38 (by decide) (by decide)).trans h38, hxu3.keep h1.ma (Nat.le_refl _) (Nat.le_refl _) hn.p8⟩
        · rw [← hp0]; exact hR3.turn h1 hqp0 hcp0.1 hn.p8
        · rw [← hp]; exact hQ.turn h1 hqp hcp hn.p8
      rcases hph with rfl | ⟨rfl, -⟩
      · exact t_two_12 hcl S3 I3 J3 w c 0 p0 (cb c) u hn.1.1.2.2.2 hn.2.2.1 (hn.k33 hc60 rfl) hkz hn.2.1 (by omega) hc60 h34 ⟨hcp0.1, hp060⟩ h46 h35 h47 h22 go
      · exact t_two_13 hcl S3 I3 J3 w c 0 p0 (cb c) u hn.1.1.2.2.2 hn.2.2.1 (hn.k33 hc60 rfl) hkz hn.2.1 (by omega) hc60 h34 ⟨hcp0.1, hp060⟩ h46 h35 h47 h22 go
    · have he : sr_e (cb c) = 1 := by unfold sr_e; rw [if_neg h22]
      have hb1 := hn.2.2.2
      obtain ⟨⟨z1, z2, z3, z4⟩, ⟨y1, y2, y3, y4⟩, hc, h33, -⟩ := hn.1
      have eph : ph = 1 := by omega
      subst eph
      refine t_two_1o hcl S3 I3 J3 w c _ (cb c) b0 nv3 pb np3 xu x y u z4 hn.2.2.1 (hn.k33 hc60 rfl) hkz hn.2.1 (by omega) hc60 z3 y1 h46 h35 h47 (by omega) z1 z2 (by omega) (by omega) y2 y3 y4 hc h38 hxu3 hu (fun S4 I4 J4 hA => ?_)
      refine (hG (sr_add 1 (sr_o (sr_two (cb c) x y) (sr_seq (sr_op (sr_e (cb c)) (sr_h (cb c) x) Q) (sr_bind (sr_GG cb c (fun i Z W => sr_D cb bg n (bg (c * 3 + i)) Z W) X Y) R)))) ?_).sp hn hA (fun nv2 np2 hI hM2 hl1 hl2 hl3 => ?_)
      · rw [hT, sr_op_o, he, sr_h_ge (by omega), sr_seq_add, sr_seq_add, sr_seq_o]; rfl
      · have hmq : ms_eq p0 ep0 I3 I4 := ⟨fun k a b j _ _ => congrFun (hI k (by omega)) j, fun k a b j _ _ => congrFun (hI k (by omega)) j⟩
        have hmq1 : ms_eq p ep I3 I4 := ⟨fun k a b j _ _ => congrFun (hI k (by omega)) j, fun k a b j _ _ => congrFun (hI k (by omega)) j⟩
        refine ⟨X, Y, hx3.keep (congrFun (hI 36 (by omega)) c) hM2 hl1 hl2 hl3, hy3.keep (congrFun (hI 37 (by omega)) c) hM2 hl1 hl2 hl3, (mb_two hk _).mpr ⟨1, R, Q, x, hph, (congrFun (hI 35 (by omega)) c).trans h35, ⟨xu, (congrFun (hI 38 (by omega)) c).trans h38, hxu3.keep hM2 hl1 hl2 hl3⟩, ?_, ?_, rfl⟩⟩
        · rw [← hp0]; exact msh.keep hM2 hl1 hl2 hl3 hR3 hqp0 hmq
        · rw [← hp]; exact msh.keep hM2 hl1 hl2 hl3 hQ hqp hmq1
/-- the one part was asked -/
theorem a_two0 (hcl : ms_cl l E a ad RW) (hN : N ≤ 60) (ih : mk_A RW cb bg N b0 pb n) (hq : qn cb bg N (q + 1) c e) (hwq : w + 1 + q ≤ 13) (hn7 : q + 7 ≤ n) (hk : cb c = 8 ∨ cb c = 11 ∨ 22 ≤ cb c) (hp0 : p0 = bg (c * 3 + 0)) (hqp0 : qn cb bg N q p0 ep0) (hcp0 : c < p0 ∧ ep0 ≤ e) (hap : (ep0 ≤ bg (c * 3 + 1)) ∧ (cb c = 11 → ep0 ≤ bg (c * 3 + 2))) : ∀ (m : Nat) {P : sr}, P.1.length = m → ∀ {φ nv np : Nat} {T : sr} {C' : Nat → Int32} {S S1 : Nat → Int32} {I I1 : mo_I} {J : mo_J}, mx I J b0 nv pb np 36 c X → mx I J b0 nv pb np 37 c Y → C' 35 = 1 → C' 36 = I 36 c → C' 37 = I 37 c → T = sr_bind (sr_GG cb c (fun i Z W => sr_D cb bg n (bg (c * 3 + i)) Z W) X Y) P → mk_K RW cb bg b0 pb n c e w B C B C p0 ep0 T P φ nv np C' S I J S1 I1 := by
  obtain ⟨⟨q1, q2, q26, -⟩, en, hch, happ⟩ := qn_o.mp hq
  have hqp : 2 ≤ qy_parts (cb c) ∧ (cb c = 11 → 3 ≤ qy_parts (cb c)) := by
    rcases hk with k8 | k8 | k8
    · rw [k8]; decide
    · rw [k8]; decide
    · have : cb c = 22 ∨ cb c = 23 ∨ cb c = 24 ∨ cb c = 25 ∨ cb c = 26 := by omega
      rcases this with q | q | q | q | q <;> rw [q] <;> decide
  obtain ⟨j1, j2, j3⟩ := hch 1 (by omega)
  have j4 := j3.lt
  have hc60 : c < 60 := by omega
  have hpe0 := hqp0.lt
  have hkz : cb c = 8 ∨ cb c = 11 ∨ cb c = 22 ∨ cb c = 23 ∨ cb c = 24 ∨ cb c = 25 ∨ cb c = 26 := by omega
  intro m
  induction m with
  | zero =>
    intro P hlen φ nv np T C' S S1 I I1 J hx hy c35 c36 c37 hT S3 I3 J3 nv3 np3 hn hl hM hcel hF hF1 hG hE
    have h34 : I3 34 (3 * c) = nI p0 := by rw [hp0]; exact hn.k34 hc60 0 (by decide)
    have h35 : I3 35 c = 1 := (hcel 35 (by decide) (by decide)).trans c35
    rcases hE with ⟨d, rfl, h46⟩ | ⟨d, rfl, h46⟩ | ⟨d, x, R, u, rfl, h46, h47, hu, hR⟩
    · exact t_two_21 hcl S3 I3 J3 w c 0 p0 (cb c) hn.1.1.2.2.2 hn.2.2.1 (hn.k33 hc60 rfl) hkz hn.2.1 (by omega) hc60 h34 ⟨hcp0.1, by omega⟩ h46 h35 (fun S4 I4 h => (hG (sr_end 0) (by rw [hT]; rfl)).ends hn h.1 h.2 q1)
    · exact t_two_3 hcl S3 I3 J3 w c 0 p0 (cb c) hn.1.1.2.2.2 hn.2.2.1 (hn.k33 hc60 rfl) hkz hn.2.1 (by omega) hc60 h34 ⟨hcp0.1, by omega⟩ h46 (fun S4 I4 h => (hG (sr_fail 0) (by rw [hT]; rfl)).fails hn h.1 h.2 q1)
    · exact absurd hlen (Nat.succ_ne_zero _)
  | succ m im =>
    intro P hlen φ nv np T C' S S1 I I1 J hx hy c35 c36 c37 hT S3 I3 J3 nv3 np3 hn hl hM hcel hF hF1 hG hE
    have hx3 : mx I3 J3 b0 nv3 pb np3 36 c X := hx.keep ((hcel 36 (by decide) (by decide)).trans c36) hM hl.1 hl.2.1 hn.p8
    have hy3 : mx I3 J3 b0 nv3 pb np3 37 c Y := hy.keep ((hcel 37 (by decide) (by decide)).trans c37) hM hl.1 hl.2.1 hn.p8
    have h34 : I3 34 (3 * c) = nI p0 := by rw [hp0]; exact hn.k34 hc60 0 (by decide)
    have h341 : I3 34 (3 * c + 1) = nI (bg (c * 3 + 1)) := hn.k34 hc60 1 (by decide)
    have h35 : I3 35 c = 1 := (hcel 35 (by decide) (by decide)).trans c35
    rcases hE with ⟨d, rfl, h46⟩ | ⟨d, rfl, h46⟩ | ⟨d, x, R, u, rfl, h46, h47, hu, hR⟩
    · exact absurd hlen (by intro z; exact absurd z.symm (Nat.succ_ne_zero _))
    · exact absurd hlen (by intro z; exact absurd z.symm (Nat.succ_ne_zero _))
    · have hlR := Nat.succ.inj hlen
      obtain ⟨v, hit, hO⟩ := hx3
      obtain ⟨z, hel, hY⟩ := hy3
      have hx3 : mx I3 J3 b0 nv3 pb np3 36 c X := ⟨v, hit, hO⟩
      have hy3 : mx I3 J3 b0 nv3 pb np3 37 c Y := ⟨z, hel, hY⟩
      have hGG : ∀ Q, sr_G (cb c) (fun i Z W => sr_D cb bg n (bg (c * 3 + i)) Z W) X Y x = Q → T = sr_add d (sr_seq (sr_op (sr_e (cb c)) (sr_h (cb c) x) Q) (sr_bind (sr_GG cb c (fun i Z W => sr_D cb bg n (bg (c * 3 + i)) Z W) X Y) R)) := by
        intro Q hQ; rw [hT, ← hQ]; rfl
      by_cases k8 : cb c = 8
      · have hT3 := hGG (sr_D cb bg n (bg (c * 3 + 1)) x Y) (by unfold sr_G; rw [if_pos k8])
        refine t_two_11_8 hcl S3 I3 J3 w c _ p0 (bg (c * 3 + 1)) u hn.1.1.2.2.2 hn.2.2.1 (hn.k33 hc60 k8) hn.2.1 (by omega) hc60 hn.1.1.2.2.1 hn.1.2.1.1 h34 ⟨hcp0.1, by omega⟩ h341 ⟨j1, by omega⟩ h46 h35 h47 (fun S4 I4 h => ?_)
        exact mk_enter ih (hG _ hT3) hn h.1 h.2 rfl hel hu hY j3 ⟨j1, j2⟩ hn7 hwq hn.BC (Nat.le_trans sr_op_c sr_seq_c) (a_two1 hcl ih hc60 q1 hwq hn7 hk q26 (ph := 1) (Or.inl rfl) hp0 (by omega) rfl hqp0 hcp0 hap.1 j3 j1 hx3 hy3 rfl rfl rfl rfl hu hR (im hlR) rfl)
      by_cases k11 : cb c = 11
      · cases htr : vt_tr x with
        | true =>
          have hT3 := hGG (sr_D cb bg n (bg (c * 3 + 1)) X Y) (by unfold sr_G; rw [if_neg k8, if_neg (by rw [htr]; simp)])
          refine t_two_11_11t hcl S3 I3 J3 w c _ p0 (bg (c * 3 + 1)) b0 nv3 pb np3 x u hn.1.1.2.2.2 hn.2.2.1 (hn.k33 hc60 k11) hn.2.1 (by omega) hc60 hn.1.1.2.2.1 hn.1.2.1.1 h34 ⟨hcp0.1, by omega⟩ h341 ⟨j1, by omega⟩ h46 h35 h47 hu hn.1.2.2.1 htr (fun S4 I4 h => ?_)
          exact mk_enter ih (hG _ hT3) hn h.1 h.2 hit hel hO hY j3 ⟨j1, j2⟩ hn7 hwq hn.BC (Nat.le_trans sr_op_c sr_seq_c) (a_two1 hcl ih hc60 q1 hwq hn7 hk q26 (ph := 1) (Or.inl rfl) hp0 (by omega) rfl hqp0 hcp0 hap.1 j3 j1 hx3 hy3 rfl rfl rfl rfl hu hR (im hlR) rfl)
        | false =>
          obtain ⟨i1, i2, i3⟩ := hch 2 (by omega)
          have i4 := i3.lt
          have h342 : I3 34 (3 * c + 2) = nI (bg (c * 3 + 2)) := hn.k34 hc60 2 (by decide)
          have hT3 := hGG (sr_D cb bg n (bg (c * 3 + 2)) X Y) (by unfold sr_G; rw [if_neg k8, if_pos ⟨k11, htr⟩])
          refine t_two_11_11f hcl S3 I3 J3 w c _ p0 (bg (c * 3 + 1)) (bg (c * 3 + 2)) b0 nv3 pb np3 x u hn.1.1.2.2.2 hn.2.2.1 (hn.k33 hc60 k11) hn.2.1 (by omega) hc60 hn.1.1.2.2.1 hn.1.2.1.1 h34 ⟨hcp0.1, by omega⟩ h341 ⟨j1, by omega⟩ h342 ⟨i1, by omega⟩ h46 h35 h47 hu hn.1.2.2.1 htr (fun S4 I4 h => ?_)
          exact mk_enter ih (hG _ hT3) hn h.1 h.2 hit hel hO hY i3 ⟨i1, i2⟩ hn7 hwq hn.BC (Nat.le_trans sr_op_c sr_seq_c) (a_two1 hcl ih hc60 q1 hwq hn7 hk q26 (ph := 2) (Or.inr ⟨rfl, k11⟩) hp0 (by omega) rfl hqp0 hcp0 (hap.2 k11) i3 i1 hx3 hy3 rfl rfl rfl rfl hu hR (im hlR) rfl)
      · have hT3 := hGG (sr_D cb bg n (bg (c * 3 + 1)) X Y) (by unfold sr_G; rw [if_neg k8, if_neg (fun z => k11 z.1)])
        refine t_two_11_x hcl S3 I3 J3 w c _ p0 (bg (c * 3 + 1)) (cb c) u hn.1.1.2.2.2 hn.2.2.1 (hn.k33 hc60 rfl) hkz hn.2.1 (by omega) hc60 hn.1.1.2.2.1 hn.1.2.1.1 h34 ⟨hcp0.1, by omega⟩ h341 ⟨j1, by omega⟩ h46 h35 h47 (by omega) (fun S4 I4 h => ?_)
        exact mk_enter ih (hG _ hT3) hn h.1 h.2 hit hel hO hY j3 ⟨j1, j2⟩ hn7 hwq hn.BC (Nat.le_trans sr_op_c sr_seq_c) (a_two1 hcl ih hc60 q1 hwq hn7 hk q26 (ph := 1) (Or.inl rfl) hp0 (by omega) rfl hqp0 hcp0 hap.1 j3 j1 hx3 hy3 rfl rfl rfl rfl hu hR (im hlR) rfl)
theorem s_two (hcl : ms_cl l E a ad RW) (hN : N ≤ 60) (ih : mk_A RW cb bg N b0 pb n) (hq : qn cb bg N (q + 1) c e) (hn7 : q + 7 ≤ n) (hwq : w + 1 + q ≤ 13) (hn : mn cb bg b0 pb B C w c S I J φ nv np) (h46 : S 46 = 0) (hk : cb c = 8 ∨ cb c = 11 ∨ 22 ≤ cb c) (hH : mk_H cb bg I J b0 nv pb np (n + 1) c T φ B C) (hG : mk_G RW cb bg b0 pb (n + 1) c e T φ w B C nv np S I J) : RW S I J := by
  obtain ⟨⟨q1, q2, q26, -⟩, en, hch, happ⟩ := qn_o.mp hq
  have hqp : 2 ≤ qy_parts (cb c) ∧ (cb c = 11 → 3 ≤ qy_parts (cb c)) := by
    rcases hk with k8 | k8 | k8
    · rw [k8]; decide
    · rw [k8]; decide
    · have : cb c = 22 ∨ cb c = 23 ∨ cb c = 24 ∨ cb c = 25 ∨ cb c = 26 := by omega
      rcases this with q | q | q | q | q <;> rw [q] <;> decide
  obtain ⟨k1, k2, k3⟩ := hch 0 (by omega)
  obtain ⟨j1, j2, j3⟩ := hch 1 (by omega)
  have k4 := k3.lt
  have j4 := j3.lt
  have hc60 : c < 60 := by omega
  have hap : (en 0 ≤ bg (c * 3 + 1)) ∧ (cb c = 11 → en 0 ≤ bg (c * 3 + 2)) := ⟨happ 0 1 (by decide) (by omega), fun h => happ 0 2 (by decide) (by omega)⟩
  have hkz : cb c = 8 ∨ cb c = 11 ∨ cb c = 22 ∨ cb c = 23 ∨ cb c = 24 ∨ cb c = 25 ∨ cb c = 26 := by omega
  have h34 : I 34 (3 * c) = nI (bg (c * 3 + 0)) := hn.k34 hc60 0 (by decide)
  have h341 : I 34 (3 * c + 1) = nI (bg (c * 3 + 1)) := hn.k34 hc60 1 (by decide)
  rcases hH with ⟨h35, ⟨X, Y, ⟨v, hit, hO⟩, ⟨x, hel, hY⟩, hT⟩, hB⟩ | hS
  · have hT : T = sr_bind (sr_GG cb c (fun i Z W => sr_D cb bg n (bg (c * 3 + i)) Z W) X Y) (sr_D cb bg n (bg (c * 3 + 0)) X Y) := by
      rw [hT, sr_B_o]; unfold sr_part
      rw [if_neg (by omega), if_neg (by omega), if_pos hk]; rfl
    refine t_two_00 hcl S I J w c φ (bg (c * 3 + 0)) (cb c) hn.1.1.2.2.2 hn.2.2.1 (hn.k33 hc60 rfl) hkz hn.2.1 (by omega) hc60 hn.1.1.2.2.1 hn.1.2.1.1 h34 ⟨k1, by omega⟩ h46 h35 (fun S2 I2 h => ?_)
    exact mk_enter ih hG hn h.1 h.2 hit hel hO hY k3 ⟨k1, k2⟩ hn7 hwq hn.BC (by rw [hT]; exact sr_bind_c) (a_two0 hcl hN ih hq hwq hn7 hk rfl k3 ⟨k1, k2⟩ hap _ rfl ⟨v, hit, hO⟩ ⟨x, hel, hY⟩ rfl rfl rfl hT)
  · obtain ⟨X, Y, hx, hy, hb⟩ := msh_o.mp hS
    obtain ⟨ph, P, R, x, hph, h35, ⟨xu, h38, hxu⟩, hP, hR, hT⟩ := (mb_two hk T).mp hb
    rcases hph with rfl | ⟨rfl, k11⟩
    · refine t_two_02 hcl S I J w c φ (bg (c * 3 + 0)) (bg (c * 3 + 1)) (cb c) hn.1.1.2.2.2 hn.2.2.1 (hn.k33 hc60 rfl) hkz hn.2.1 (by omega) hc60 h34 ⟨k1, by omega⟩ h341 ⟨j1, by omega⟩ h46 h35 (fun S2 I2 h => ?_)
      exact mk_ask ih hG hn h.1 h.2 j3 ⟨j1, j2⟩ hn7 hwq hR hn.BC (by rw [hT]; exact Nat.le_trans sr_op_c sr_seq_c) (a_two1 hcl ih hc60 q1 hwq hn7 hk q26 (ph := 1) (Or.inl rfl) rfl (by omega) rfl k3 ⟨k1, k2⟩ hap.1 j3 j1 hx hy h35 rfl rfl h38 hxu hP (a_two0 hcl hN ih hq hwq hn7 hk rfl k3 ⟨k1, k2⟩ hap _ rfl) hT)
    · obtain ⟨i1, i2, i3⟩ := hch 2 (by omega)
      have i4 := i3.lt
      have h342 : I 34 (3 * c + 2) = nI (bg (c * 3 + 2)) := hn.k34 hc60 2 (by decide)
      refine t_two_03 hcl S I J w c φ (bg (c * 3 + 0)) (bg (c * 3 + 2)) (cb c) hn.1.1.2.2.2 hn.2.2.1 (hn.k33 hc60 rfl) hkz hn.2.1 (by omega) hc60 h34 ⟨k1, by omega⟩ h342 ⟨i1, by omega⟩ h46 h35 (fun S2 I2 h => ?_)
      exact mk_ask ih hG hn h.1 h.2 i3 ⟨i1, i2⟩ hn7 hwq hR hn.BC (by rw [hT]; exact Nat.le_trans sr_op_c sr_seq_c) (a_two1 hcl ih hc60 q1 hwq hn7 hk q26 (ph := 2) (Or.inr ⟨rfl, k11⟩) rfl (by omega) rfl k3 ⟨k1, k2⟩ (hap.2 k11) i3 i1 hx hy h35 rfl rfl h38 hxu hP (a_two0 hcl hN ih hq hwq hn7 hk rfl k3 ⟨k1, k2⟩ hap _ rfl) hT)
end
