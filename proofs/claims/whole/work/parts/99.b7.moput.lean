/-! put and gather of the model: what asking them leads to. -/
theorem sr_o_1 {o : Option vt} : sr_1 o = sr_o o (sr_end 0) := by cases o <;> rfl
theorem sr_op_o {h : vt → Option vt} {d : Nat} {x : vt} {R : sr} {e : Nat} : sr_op e h (sr_cons d x R) = sr_add d (sr_add e (sr_o (h x) (sr_op e h R))) := by
  cases hq : h x with
  | none => rw [sr_op_none hq]; rfl
  | some v => rw [sr_op_some hq]; rfl
section
variable {l : Launch} {E : gh_E} {a : Nat} {ad : Nat → Nat} {RW : (Nat → Int32) → mo_I → mo_J → Prop} {cb bg : Nat → Nat} {N b0 pb n c e w B C q φ nv np p ep : Nat} {T P : sr} {C' : Nat → Int32} {S S1 : Nat → Int32} {I I1 : mo_I} {J : mo_J} {X Y : vt}
theorem a_16 (hcl : ms_cl l E a ad RW) (hc59 : c < 59) (hce : c < e) (hw : w < 13) (hk : cb c = 16) (hl2 : 97 ≤ cb (c + 1) ∧ cb (c + 1) ≤ 122) (hp : p = bg (c * 3 + 0)) (hp60 : p < 60) (hkX : vt_k X = 0 ∨ vt_k X = 6) (hx : mx I J b0 nv pb np 36 c X) (hy : mx I J b0 nv pb np 37 c Y) (c35 : C' 35 = 1) (c36 : C' 36 = I 36 c) (c37 : C' 37 = I 37 c) (hqp : qn cb bg N q p ep) (hcp : c < p) (hT : T = sr_op 1 (vt_wm X [nI (cb (c + 1))]) P) : mk_K RW cb bg b0 pb n c e w B C B C p ep T P φ nv np C' S I J S1 I1 := by
  intro S3 I3 J3 nv3 np3 hn hl hM hcel hF hF1 hG hE
  have hc60 : c < 60 := by omega
  have hx3 : mx I3 J3 b0 nv3 pb np3 36 c X := hx.keep ((hcel 36 (by decide) (by decide)).trans c36) hM hl.1 hl.2.1 hn.p8
  have hy3 : mx I3 J3 b0 nv3 pb np3 37 c Y := hy.keep ((hcel 37 (by decide) (by decide)).trans c37) hM hl.1 hl.2.1 hn.p8
  have h34 : I3 34 (3 * c) = nI p := by rw [hp]; exact hn.k34 hc60 0 (by decide)
  have h35 : I3 35 c = 1 := (hcel 35 (by decide) (by decide)).trans c35
  rcases hE with ⟨d, rfl, h46⟩ | ⟨d, rfl, h46⟩ | ⟨d, x, R, u, rfl, h46, h47, hu, hR⟩
  · exact t_put_2 hcl S3 I3 J3 w c 0 hn.1.1.2.2.2 hn.2.2.1 (hn.k33 hc60 hk) hn.2.1 (by omega) hc60 h46 (fun S4 I4 h => (hG (sr_end 0) (by rw [hT]; rfl)).ends hn h.1 h.2 hce)
  · exact t_put_3 hcl S3 I3 J3 w c 0 hn.1.1.2.2.2 hn.2.2.1 (hn.k33 hc60 hk) hn.2.1 (by omega) hc60 h46 (fun S4 I4 h => (hG (sr_fail 0) (by rw [hT]; rfl)).fails hn h.1 h.2 hce)
  · obtain ⟨v, hit, hO⟩ := hx3
    have hb1 := hn.2.2.2
    obtain ⟨⟨z1, z2, z3, z4⟩, ⟨y1, y2, y3, y4⟩, hc, h33, -⟩ := hn.1
    have fin : ∀ S4 I4 J4, mr_sp (vt_wm X [nI (cb (c + 1))] x) (φ - sr_c (sr_cons d x R)) S3 I3 J3 b0 nv3 pb np3 w S4 I4 J4 → RW S4 I4 J4 := by
      intro S4 I4 J4 hA
      refine (hG (sr_add 1 (sr_o (vt_wm X [nI (cb (c + 1))] x) (sr_op 1 (vt_wm X [nI (cb (c + 1))]) R))) (by rw [hT, sr_op_o]; rfl)).sp hn hA (fun nv2 np2 hI hM2 hl1 hl2 hl3 => ?_)
      refine ⟨X, Y, (show mx I3 J3 b0 nv3 pb np3 36 c X from ⟨v, hit, hO⟩).keep (congrFun (hI 36 (by omega)) c) hM2 hl1 hl2 hl3, hy3.keep (congrFun (hI 37 (by omega)) c) hM2 hl1 hl2 hl3, (mb_16 hk _).mpr ⟨(congrFun (hI 35 (by omega)) c).trans h35, hkX, R, ?_, rfl⟩⟩
      rw [← hp]
      exact msh.keep hM2 hl1 hl2 hl3 hR hqp ⟨fun k a b j _ _ => congrFun (hI k (by omega)) j, fun k a b j _ _ => congrFun (hI k (by omega)) j⟩
    have sp : ∀ b : Nat, b ≤ 8768 → np3 + 32 * (φ - sr_c (sr_cons d x R)) ≤ b → np3 + 32 ≤ 8800 := fun b h1 h2 => by omega
    rcases hkX with hkX | hkX
    · exact t_put_1_0 hcl S3 I3 J3 w c _ b0 nv3 pb np3 v (cb (c + 1)) X x u z4 hn.2.2.1 (hn.k33 hc60 hk) hn.2.1 (by omega) hc60 z3 y1 h46 h47 z1 z2 (by omega) (by omega) y2 y3 y4 hc hit hO hkX hu hc59 (h33 _ (by omega)) hl2 fin
    · exact t_put_1_6 hcl S3 I3 J3 w c _ b0 nv3 pb np3 v (cb (c + 1)) X x u z4 hn.2.2.1 (hn.k33 hc60 hk) hn.2.1 (by omega) hc60 z3 y1 h46 h47 z1 z2 (by omega) (by omega) y2 y3 y4 hc hit hO hkX hu hc59 (h33 _ (by omega)) hl2 fin
theorem s_16 (hcl : ms_cl l E a ad RW) (hN : N ≤ 60) (ih : mk_A RW cb bg N b0 pb n) (hq : qn cb bg N (q + 1) c e) (hn7 : q + 7 ≤ n) (hwq : w + 1 + q ≤ 13) (hn : mn cb bg b0 pb B C w c S I J φ nv np) (h46 : S 46 = 0) (hk : cb c = 16) (hH : mk_H cb bg I J b0 nv pb np (n + 1) c T φ B C) (hG : mk_G RW cb bg b0 pb (n + 1) c e T φ w B C nv np S I J) : RW S I J := by
  obtain ⟨⟨q1, q2, -, q4, -⟩, en, hch, -⟩ := qn_o.mp hq
  obtain ⟨k1, k2, k3⟩ := hch 0 (by rw [hk]; decide)
  have k4 := k3.lt
  have hl := q4 (by omega)
  have h34 : I 34 (3 * c) = nI (bg (c * 3 + 0)) := hn.k34 (by omega) 0 (by decide)
  rcases hH with ⟨h35, ⟨X, Y, ⟨v, hit, hO⟩, ⟨x, hel, hY⟩, hT⟩, hB⟩ | hS
  · have h1v := (mv_o.mp hO.1).2.1
    have hk6 := (vo_o.mp hO.2).1
    have hT : T = (if vt_k X = 0 ∨ vt_k X = 6 then sr_op 1 (vt_wm X [nI (cb (c + 1))]) (sr_D cb bg n (bg (c * 3 + 0)) X Y) else sr_fail 0) := by
      rw [hT, sr_B_o]; unfold sr_part
      rw [if_neg (by omega), if_neg (by omega), if_neg (by omega), if_neg (by omega), if_neg (by omega), if_neg (by omega), if_neg (by omega), if_neg (by omega), if_pos hk]
    by_cases hkX : vt_k X = 0 ∨ vt_k X = 6
    · rw [if_pos hkX] at hT
      have go : ∀ S2 I2, mct c w (fun j => j = bg (c * 3 + 0)) (va_up (fun k => I k c) 35 1) S I S2 I2 ∧ oc_e w (bg (c * 3 + 0)) (nI v) (I 37 c) φ S S2 I2 → RW S2 I2 J := fun S2 I2 h =>
        mk_enter ih hG hn h.1 h.2 rfl hel hO hY k3 ⟨k1, k2⟩ hn7 hwq hn.BC (by rw [hT]; exact sr_op_c) (a_16 hcl (by omega) q1 (by omega) hk hl.2 rfl (by omega) hkX ⟨v, hit, hO⟩ ⟨x, hel, hY⟩ rfl rfl rfl k3 k1 hT)
      rcases hkX with hkX | hkX
      · exact t_put_00_0 hcl S I J w c φ (bg (c * 3 + 0)) v hn.1.1.2.2.2 hn.2.2.1 (hn.k33 (by omega) hk) hn.2.1 (by omega) (by omega) hn.1.1.2.2.1 hn.1.2.1.1 h34 ⟨k1, by omega⟩ h46 h35 hit hO.lt (by rw [h1v, hkX]) go
      · exact t_put_00_6 hcl S I J w c φ (bg (c * 3 + 0)) v hn.1.1.2.2.2 hn.2.2.1 (hn.k33 (by omega) hk) hn.2.1 (by omega) (by omega) hn.1.1.2.2.1 hn.1.2.1.1 h34 ⟨k1, by omega⟩ h46 h35 hit hO.lt (by rw [h1v, hkX]) go
    · rw [if_neg hkX] at hT
      subst hT
      exact t_put_00_x hcl S I J w c φ v (vt_k X) hn.1.1.2.2.2 hn.2.2.1 (hn.k33 (by omega) hk) hn.2.1 (by omega) (by omega) h46 h35 hit hO.lt h1v (by omega) (fun S2 I2 h => hG.fails hn h.1 h.2 q1)
  · obtain ⟨X, Y, hx, hy, hb⟩ := msh_o.mp hS
    obtain ⟨h35, hkX, P, hP, hT⟩ := (mb_16 hk T).mp hb
    refine t_put_01 hcl S I J w c φ (bg (c * 3 + 0)) hn.1.1.2.2.2 hn.2.2.1 (hn.k33 (by omega) hk) hn.2.1 (by omega) (by omega) h34 ⟨k1, by omega⟩ h46 h35 (fun S2 I2 h => ?_)
    exact mk_ask ih hG hn h.1 h.2 k3 ⟨k1, k2⟩ hn7 hwq hP hn.BC (by rw [hT]; exact sr_op_c) (a_16 hcl (by omega) q1 (by omega) hk hl.2 rfl (by omega) hkX hx hy h35 rfl rfl k3 k1 hT)
/-! gather: all values in a list -/
theorem a_12 (hcl : ms_cl l E a ad RW) (ih : mk_A RW cb bg N b0 pb n) (hc60 : c < 60) (hce : c < e) (hwq : w + 1 + q ≤ 13) (hn7 : q + 7 ≤ n) (hB : B ≤ 759 ∧ C ≤ 8768 ∧ 1 ≤ B ∧ 32 ≤ C) (hk : cb c = 12) (hp : p = bg (c * 3 + 0)) (hp60 : p < 60) (hqp : qn cb bg N q p ep) (hcp : c < p ∧ ep ≤ e) : ∀ (m : Nat) {φ nv np : Nat} {T P : sr} {C' : Nat → Int32} {S S1 : Nat → Int32} {I I1 : mo_I} {J : mo_J} {xs : List vt} {Bf : Nat → Nat}, P.1.length = m → mx I J b0 nv pb np 36 c X → mx I J b0 nv pb np 37 c Y → C' 35 = 1 → C' 36 = I 36 c → C' 37 = I 37 c → C' 40 = nI xs.length → xs.length ≤ 16 → (∀ j, j < xs.length → I1 41 (16 * c + j) = nI (Bf j) ∧ mw I J b0 nv pb np (Bf j) (xs.getD j (vt_0 0))) → T = sr_lst xs P → mk_K RW cb bg b0 pb n c e w B C (B - 1) (C - 32) p ep T P φ nv np C' S I J S1 I1 := by
  intro m
  induction m with
  | zero =>
    intro φ nv np T P C' S S1 I I1 J xs Bf hlen hx hy c35 c36 c37 c40 hx16 hBf hT S3 I3 J3 nv3 np3 hn0 hl hM hcel hF hF1 hG hE
    have hn := hn0.up (B := B) (C := C) (by omega)
    have hx3 : mx I3 J3 b0 nv3 pb np3 36 c X := hx.keep ((hcel 36 (by decide) (by decide)).trans c36) hM hl.1 hl.2.1 hn.p8
    have hy3 : mx I3 J3 b0 nv3 pb np3 37 c Y := hy.keep ((hcel 37 (by decide) (by decide)).trans c37) hM hl.1 hl.2.1 hn.p8
    have h34 : I3 34 (3 * c) = nI p := by rw [hp]; exact hn.k34 hc60 0 (by decide)
    have h35 : I3 35 c = 1 := (hcel 35 (by decide) (by decide)).trans c35
    have h40 := (hcel 40 (by decide) (by decide)).trans c40
    have hb1 := hn0.2.2.2
    obtain ⟨⟨z1, z2, z3, z4⟩, ⟨y1, y2, y3, y4⟩, hc, h33, -⟩ := hn.1
    rcases hE with ⟨d, rfl, h46⟩ | ⟨d, rfl, h46⟩ | ⟨d, x, R, u, rfl, h46, h47, hu, hR⟩
    · refine t_gather_2 hcl S3 I3 J3 w c 0 b0 nv3 pb np3 xs Bf z4 hn.2.2.1 (hn.k33 hc60 hk) hn.2.1 (by omega) hc60 h46 z1 z2 (by omega) (by omega) y2 y3 y4 hc h40 hx16 (fun j hj => ?_) (fun S4 I4 J4 hA => ?_)
      · have hj16 : (16 * c + j) / 16 = c := by omega
        exact ⟨(hF1.2.2.2.2 41 (by decide) (by decide) (16 * c + j) (by show ¬ (p ≤ (16 * c + j) / 16 ∧ _); rw [hj16]; omega)).trans (hBf j hj).1, (hBf j hj).2.keep hM hl.1 hl.2.1 hn.p8⟩
      · refine (hG (sr_o (vt_mk 5 [] xs) (sr_end 0)) (by rw [hT, sr_lst_end, sr_o_1]; rfl)).mr hn.1 (by omega) hA (fun nv2 np2 hI hM2 hl1 hl2 hl3 => ?_)
        exact ⟨X, Y, hx3.keep (congrFun (hI 36 (by omega)) c) hM2 hl1 hl2 hl3, hy3.keep (congrFun (hI 37 (by omega)) c) hM2 hl1 hl2 hl3, (mb_leaf (by omega) _).mpr ⟨(congrFun (hI 35 (by omega)) c).trans h35, rfl⟩⟩
    · exact t_gather_3 hcl S3 I3 J3 w c 0 p z4 hn.2.2.1 (hn.k33 hc60 hk) hn.2.1 (by omega) hc60 h34 ⟨hcp.1, hp60⟩ h46 (fun S4 I4 h => (hG (sr_fail 0) (by rw [hT]; rfl)).fails hn h.1 h.2 hce)
    · exact absurd hlen (Nat.succ_ne_zero _)
  | succ m im =>
    intro φ nv np T P C' S S1 I I1 J xs Bf hlen hx hy c35 c36 c37 c40 hx16 hBf hT S3 I3 J3 nv3 np3 hn0 hl hM hcel hF hF1 hG hE
    have hn := hn0.up (B := B) (C := C) (by omega)
    have hx3 : mx I3 J3 b0 nv3 pb np3 36 c X := hx.keep ((hcel 36 (by decide) (by decide)).trans c36) hM hl.1 hl.2.1 hn.p8
    have hy3 : mx I3 J3 b0 nv3 pb np3 37 c Y := hy.keep ((hcel 37 (by decide) (by decide)).trans c37) hM hl.1 hl.2.1 hn.p8
    have h34 : I3 34 (3 * c) = nI p := by rw [hp]; exact hn.k34 hc60 0 (by decide)
    have h35 : I3 35 c = 1 := (hcel 35 (by decide) (by decide)).trans c35
    have h40 := (hcel 40 (by decide) (by decide)).trans c40
    rcases hE with ⟨d, rfl, h46⟩ | ⟨d, rfl, h46⟩ | ⟨d, x, R, u, rfl, h46, h47, hu, hR⟩
    · exact absurd hlen (by intro z; exact absurd z.symm (Nat.succ_ne_zero _))
    · exact absurd hlen (by intro z; exact absurd z.symm (Nat.succ_ne_zero _))
    · by_cases h16 : xs.length < 16
      · refine t_gather_1 hcl S3 I3 J3 w c 0 p xs.length u hn.1.1.2.2.2 hn.2.2.1 (hn.k33 hc60 hk) hn.2.1 (by omega) hc60 h34 ⟨hcp.1, hp60⟩ h46 h47 h40 h16 (fun S4 I4 h => ?_)
        obtain ⟨h1, h41, h2⟩ := h
        refine mk_ask ih (hG (sr_lst (xs ++ [x]) R) (by rw [hT, sr_lst_cons h16]; rfl)) hn0 h1 h2 hqp hcp hn7 hwq hR (by omega) sr_lst_c (im (xs := xs ++ [x]) (Bf := fun j => if j = xs.length then u else Bf j) (Nat.succ.inj hlen) hx3 hy3 h35 rfl rfl (by rw [List.length_append]; rfl) (by rw [List.length_append]; exact h16) (fun j hj => ?_) rfl)
        rw [List.length_append] at hj
        have hj : j < xs.length + 1 := hj
        rw [h41]
        by_cases ej : j = xs.length
        · subst ej
          refine ⟨by simp [upd], ?_⟩
          rw [if_pos rfl, List.getD_eq_getElem?_getD, List.getElem?_append_right (Nat.le_refl _), Nat.sub_self]
          exact hu
        · have hj2 : j < xs.length := by omega
          have hj16 : (16 * c + j) / 16 = c := by omega
          refine ⟨?_, ?_⟩
          · simp only [upd]
            rw [if_neg (by omega), if_neg ej]
            exact (hF1.2.2.2.2 41 (by decide) (by decide) (16 * c + j) (by show ¬ (p ≤ (16 * c + j) / 16 ∧ _); rw [hj16]; omega)).trans (hBf j hj2).1
          · rw [if_neg ej, List.getD_eq_getElem?_getD, List.getElem?_append_left hj2, ← List.getD_eq_getElem?_getD]
            exact (hBf j hj2).2.keep hM hl.1 hl.2.1 hn.p8
      · have e16 : xs.length = 16 := by omega
        rw [e16] at h40
        exact t_gather_1f hcl S3 I3 J3 w c 0 p hn.1.1.2.2.2 hn.2.2.1 (hn.k33 hc60 hk) hn.2.1 (by omega) hc60 h34 ⟨hcp.1, hp60⟩ h46 h40 (fun S4 I4 h => (hG (sr_fail 0) (by rw [hT, sr_lst_full h16]; rfl)).fails hn h.1 h.2 hce)
theorem s_12 (hcl : ms_cl l E a ad RW) (hN : N ≤ 60) (ih : mk_A RW cb bg N b0 pb n) (hq : qn cb bg N (q + 1) c e) (hn7 : q + 7 ≤ n) (hwq : w + 1 + q ≤ 13) (hn : mn cb bg b0 pb B C w c S I J φ nv np) (h46 : S 46 = 0) (hk : cb c = 12) (hH : mk_H cb bg I J b0 nv pb np (n + 1) c T φ B C) (hG : mk_G RW cb bg b0 pb (n + 1) c e T φ w B C nv np S I J) : RW S I J := by
  obtain ⟨⟨q1, q2, -⟩, en, hch, -⟩ := qn_o.mp hq
  obtain ⟨k1, k2, k3⟩ := hch 0 (by rw [hk]; decide)
  have k4 := k3.lt
  have h34 : I 34 (3 * c) = nI (bg (c * 3 + 0)) := hn.k34 (by omega) 0 (by decide)
  have hBC := hn.2.2.2.2
  rcases hH with ⟨h35, ⟨X, Y, ⟨v, hit, hO⟩, ⟨x, hel, hY⟩, hT⟩, hB⟩ | hS
  · have hT : T = sr_lst [] (sr_D cb bg n (bg (c * 3 + 0)) X Y) := by
      rw [hT, sr_B_o]; unfold sr_part
      rw [if_neg (by omega), if_neg (by omega), if_neg (by omega), if_neg (by omega), if_neg (by omega), if_pos hk]
    refine t_gather_00 hcl S I J w c φ (bg (c * 3 + 0)) hn.1.1.2.2.2 hn.2.2.1 (hn.k33 (by omega) hk) hn.2.1 (by omega) (by omega) hn.1.1.2.2.1 hn.1.2.1.1 h34 ⟨k1, by omega⟩ h46 h35 (fun S2 I2 h => ?_)
    have hn0 : mn cb bg b0 pb (B - 1) (C - 32) w c S I J φ nv np := ⟨hn.1, hn.2.1, hn.2.2.1, ⟨by omega, by omega⟩, by omega, by omega⟩
    exact mk_enter ih hG hn0 h.1 h.2 hit hel hO hY k3 ⟨k1, k2⟩ hn7 hwq (by omega) (by rw [hT]; exact sr_lst_c) (a_12 hcl ih (by omega) q1 hwq hn7 (by omega) hk rfl (by omega) k3 ⟨k1, k2⟩ _ (xs := []) (Bf := fun _ => 0) rfl ⟨v, hit, hO⟩ ⟨x, hel, hY⟩ rfl rfl rfl rfl (Nat.zero_le _) (fun j hj => absurd hj (Nat.not_lt_zero j)) hT)
  · obtain ⟨X, Y, hx, hy, hb⟩ := msh_o.mp hS
    obtain ⟨h35, hT⟩ := (mb_leaf (by omega) T).mp hb
    subst hT
    exact t_gather_01 hcl S I J w c φ (bg (c * 3 + 0)) hn.1.1.2.2.2 hn.2.2.1 (hn.k33 (by omega) hk) hn.2.1 (by omega) (by omega) h34 ⟨k1, by omega⟩ h46 h35 (fun S2 I2 h => hG.ends hn h.1 h.2 q1)
end
