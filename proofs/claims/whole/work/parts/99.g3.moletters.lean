/-! letters of the model. Printed by wip/whole/gen_mo35.py. -/
/-- from nv on nothing changed -/
def mfar (I : mo_I) (J : mo_J) (I2 : mo_I) (J2 : mo_J) (nv : Nat) : Prop := ∀ k v, k ≠ 10 → nv ≤ v → I2 k v = I k v ∧ J2 k v = J k v
/-- a scalar was read, or it was bad; bd: it was built -/
def rO (bd : Bool) (S : Nat → Int32) (I : mo_I) (J : mo_J) (nv np : Nat) (o : Option vt) (S2 : Nat → Int32) (I2 : mo_I) (J2 : mo_J) : Prop := (bd = false → (∀ k, k ≠ 21 → k ≠ 28 → S2 k = S k) ∧ I2 = I ∧ J2 = J) ∧ (bd = true → ∀ X, o = some X → (∀ k, k ≠ 11 → k ≠ 21 → k ≠ 28 → S2 k = S k) ∧ (∀ k, k ≠ 1 → k ≠ 3 → k ≠ 4 → k ≠ 5 → I2 k = I k) ∧ ma I J I2 J2 29 nv 0 np ∧ ∃ nv2 u, (nv ≤ nv2 ∧ nv2 ≤ nv + 1 ∧ mfar I J I2 J2 nv2) ∧ S2 11 = nI nv2 ∧ S2 28 = nI u ∧ mw I2 J2 29 nv2 0 np u X)
theorem rd_s_o {tx : Nat → Nat} {n m p : Nat} {L : List Int32} : rd_s tx n (m + 1) p L = (if n ≤ p then (p, none) else if tx p = 34 then (p + 1, some L) else if tx p = 92 then (if (sg tx n (p + 1) ≠ 34 ∧ sg tx n (p + 1) ≠ 92) ∨ 24 ≤ L.length then (p + 1, none) else rd_s tx n m (p + 2) (L ++ [nI (sg tx n (p + 1))])) else if 24 ≤ L.length then (p, none) else rd_s tx n m (p + 1) (L ++ [nI (tx p)])) := rfl
theorem lt_ok.add {L : List Int32} {c : Nat} (h : lt_ok L) (h1 : 32 ≤ c) (h2 : c ≤ 126) (hl : L.length < 24) : lt_ok (L ++ [nI c]) := by
  refine ⟨by rw [List.length_append]; show L.length + 1 ≤ 24; omega, fun j hj => ?_⟩
  rw [List.length_append] at hj
  have hj : j < L.length + 1 := hj
  by_cases e : j = L.length
  · subst e
    refine ⟨c, h1, h2, ?_⟩
    rw [List.getD_eq_getElem?_getD, List.getElem?_append_right (Nat.le_refl _), Nat.sub_self]
    rfl
  · obtain ⟨c2, a1, a2, a3⟩ := h.2 j (by omega)
    refine ⟨c2, a1, a2, ?_⟩
    rw [List.getD_eq_getElem?_getD, List.getElem?_append_left (by omega), ← List.getD_eq_getElem?_getD]
    exact a3
theorem sb_mw {S S1 : Nat → Int32} {I I1 I2 : mo_I} {J J1 J2 : mo_J} {b0 nv pb np : Nat} {L : List Int32} (h : mk_o S I J nv 4 0 S1 I1 J1) (hs : sb I1 J1 nv L I2 J2) (hL : lt_ok L) (hb : b0 ≤ nv) (hv : nv < 760) (h29 : 29 ≤ nv) : mw I2 J2 b0 (nv + 1) pb np nv (vt_t L) ∧ (ma I J I2 J2 b0 nv pb np ∧ mfar I J I2 J2 (nv + 1)) ∧ ∀ k, k ≠ 1 → k ≠ 3 → k ≠ 4 → k ≠ 5 → I2 k = I k := by
  obtain ⟨q1, q3, q4, q5⟩ := h.2.2.1
  refine ⟨mv_S.str ⟨⟨Or.inr ⟨hb, by omega⟩, hv⟩, (hs.1 1 nv (Or.inl (by decide))).trans q1, (hs.2.2.1 2 nv (Or.inl (by decide))).trans h.2.2.2.2.1, hs.2.1, hs.2.2.2, (hs.1 4 nv (Or.inl (by decide))).trans q4, (hs.1 5 nv (Or.inl (by decide))).trans q5⟩ hL, ⟨(h.ma h29).tr (nv1 := nv) (np1 := np) ⟨fun k u _ hu => hs.1 k u (Or.inr (hu.new h29)), fun k u _ hu => hs.2.2.1 k u (Or.inr (hu.new h29)), fun p _ _ => hs.1 10 p (Or.inl (by decide))⟩ (Nat.le_refl _) (Nat.le_refl _), fun k v _ hv => ⟨(hs.1 k v (Or.inr (by omega))).trans (h.2.1 k v (Or.inr (by omega))), (hs.2.2.1 k v (Or.inr (by omega))).trans (h.2.2.2.1 k v (Or.inr (by omega)))⟩⟩, fun k h1 h3 h4 h5 => funext (fun j => (hs.1 k j (Or.inl h3)).trans (h.2.1 k j (Or.inl ⟨h1, h3, h4, h5⟩)))⟩
theorem d_Mo_letters_0 : decode b_Mo_letters 0 = .ok (.aload_n 0, 1) := by decide +kernel
theorem d_Mo_letters_1 : decode b_Mo_letters 1 = .ok (.invokevirtual 185, 3) := by decide +kernel
theorem d_Mo_letters_4 : decode b_Mo_letters 4 = .ok (.bipush 34, 2) := by decide +kernel
theorem d_Mo_letters_6 : decode b_Mo_letters 6 = .ok (.if_icmp .eq 5, 3) := by decide +kernel
theorem d_Mo_letters_9 : decode b_Mo_letters 9 = .ok (.iconst 0, 1) := by decide +kernel
theorem d_Mo_letters_10 : decode b_Mo_letters 10 = .ok (.ireturn, 1) := by decide +kernel
theorem d_Mo_letters_11 : decode b_Mo_letters 11 = .ok (.aload_n 0, 1) := by decide +kernel
theorem d_Mo_letters_12 : decode b_Mo_letters 12 = .ok (.dup, 1) := by decide +kernel
theorem d_Mo_letters_13 : decode b_Mo_letters 13 = .ok (.getfield 179, 3) := by decide +kernel
theorem d_Mo_letters_16 : decode b_Mo_letters 16 = .ok (.iconst 1, 1) := by decide +kernel
theorem d_Mo_letters_17 : decode b_Mo_letters 17 = .ok (.iadd, 1) := by decide +kernel
theorem d_Mo_letters_18 : decode b_Mo_letters 18 = .ok (.putfield 179, 3) := by decide +kernel
theorem d_Mo_letters_21 : decode b_Mo_letters 21 = .ok (.aload_n 0, 1) := by decide +kernel
theorem d_Mo_letters_22 : decode b_Mo_letters 22 = .ok (.getfield 206, 3) := by decide +kernel
theorem d_Mo_letters_25 : decode b_Mo_letters 25 = .ok (.ifCond .eq 12, 3) := by decide +kernel
theorem d_Mo_letters_28 : decode b_Mo_letters 28 = .ok (.aload_n 0, 1) := by decide +kernel
theorem d_Mo_letters_29 : decode b_Mo_letters 29 = .ok (.iconst 4, 1) := by decide +kernel
theorem d_Mo_letters_30 : decode b_Mo_letters 30 = .ok (.lconst 0, 1) := by decide +kernel
theorem d_Mo_letters_31 : decode b_Mo_letters 31 = .ok (.invokevirtual 159, 3) := by decide +kernel
theorem d_Mo_letters_34 : decode b_Mo_letters 34 = .ok (.goto 4, 3) := by decide +kernel
theorem d_Mo_letters_37 : decode b_Mo_letters 37 = .ok (.iconst 0, 1) := by decide +kernel
theorem d_Mo_letters_38 : decode b_Mo_letters 38 = .ok (.istore_n 1, 1) := by decide +kernel
theorem d_Mo_letters_39 : decode b_Mo_letters 39 = .ok (.iconst 0, 1) := by decide +kernel
theorem d_Mo_letters_40 : decode b_Mo_letters 40 = .ok (.istore_n 2, 1) := by decide +kernel
theorem d_Mo_letters_41 : decode b_Mo_letters 41 = .ok (.aload_n 0, 1) := by decide +kernel
theorem d_Mo_letters_42 : decode b_Mo_letters 42 = .ok (.invokevirtual 185, 3) := by decide +kernel
theorem d_Mo_letters_45 : decode b_Mo_letters 45 = .ok (.bipush 34, 2) := by decide +kernel
theorem d_Mo_letters_47 : decode b_Mo_letters 47 = .ok (.if_icmp .eq 101, 3) := by decide +kernel
theorem d_Mo_letters_50 : decode b_Mo_letters 50 = .ok (.aload_n 0, 1) := by decide +kernel
theorem d_Mo_letters_51 : decode b_Mo_letters 51 = .ok (.invokevirtual 185, 3) := by decide +kernel
theorem d_Mo_letters_54 : decode b_Mo_letters 54 = .ok (.bipush 92, 2) := by decide +kernel
theorem d_Mo_letters_56 : decode b_Mo_letters 56 = .ok (.if_icmp .ne 7, 3) := by decide +kernel
theorem d_Mo_letters_59 : decode b_Mo_letters 59 = .ok (.iconst 1, 1) := by decide +kernel
theorem d_Mo_letters_60 : decode b_Mo_letters 60 = .ok (.goto 4, 3) := by decide +kernel
theorem d_Mo_letters_63 : decode b_Mo_letters 63 = .ok (.iconst 0, 1) := by decide +kernel
theorem d_Mo_letters_64 : decode b_Mo_letters 64 = .ok (.istore_n 3, 1) := by decide +kernel
theorem d_Mo_letters_65 : decode b_Mo_letters 65 = .ok (.iload_n 3, 1) := by decide +kernel
theorem d_Mo_letters_66 : decode b_Mo_letters 66 = .ok (.ifCond .eq 13, 3) := by decide +kernel
theorem d_Mo_letters_69 : decode b_Mo_letters 69 = .ok (.aload_n 0, 1) := by decide +kernel
theorem d_Mo_letters_70 : decode b_Mo_letters 70 = .ok (.dup, 1) := by decide +kernel
theorem d_Mo_letters_71 : decode b_Mo_letters 71 = .ok (.getfield 179, 3) := by decide +kernel
theorem d_Mo_letters_74 : decode b_Mo_letters 74 = .ok (.iconst 1, 1) := by decide +kernel
theorem d_Mo_letters_75 : decode b_Mo_letters 75 = .ok (.iadd, 1) := by decide +kernel
theorem d_Mo_letters_76 : decode b_Mo_letters 76 = .ok (.putfield 179, 3) := by decide +kernel
theorem d_Mo_letters_79 : decode b_Mo_letters 79 = .ok (.iload_n 3, 1) := by decide +kernel
theorem d_Mo_letters_80 : decode b_Mo_letters 80 = .ok (.ifCond .eq 21, 3) := by decide +kernel
theorem d_Mo_letters_83 : decode b_Mo_letters 83 = .ok (.aload_n 0, 1) := by decide +kernel
theorem d_Mo_letters_84 : decode b_Mo_letters 84 = .ok (.invokevirtual 185, 3) := by decide +kernel
theorem d_Mo_letters_87 : decode b_Mo_letters 87 = .ok (.bipush 92, 2) := by decide +kernel
theorem d_Mo_letters_89 : decode b_Mo_letters 89 = .ok (.if_icmp .eq 12, 3) := by decide +kernel
theorem d_Mo_letters_92 : decode b_Mo_letters 92 = .ok (.aload_n 0, 1) := by decide +kernel
theorem d_Mo_letters_93 : decode b_Mo_letters 93 = .ok (.invokevirtual 185, 3) := by decide +kernel
theorem d_Mo_letters_96 : decode b_Mo_letters 96 = .ok (.bipush 34, 2) := by decide +kernel
theorem d_Mo_letters_98 : decode b_Mo_letters 98 = .ok (.if_icmp .ne 16, 3) := by decide +kernel
theorem d_Mo_letters_101 : decode b_Mo_letters 101 = .ok (.aload_n 0, 1) := by decide +kernel
theorem d_Mo_letters_102 : decode b_Mo_letters 102 = .ok (.invokevirtual 185, 3) := by decide +kernel
theorem d_Mo_letters_105 : decode b_Mo_letters 105 = .ok (.ifCond .lt 9, 3) := by decide +kernel
theorem d_Mo_letters_108 : decode b_Mo_letters 108 = .ok (.iload_n 2, 1) := by decide +kernel
theorem d_Mo_letters_109 : decode b_Mo_letters 109 = .ok (.bipush 24, 2) := by decide +kernel
theorem d_Mo_letters_111 : decode b_Mo_letters 111 = .ok (.if_icmp .ne 5, 3) := by decide +kernel
theorem d_Mo_letters_114 : decode b_Mo_letters 114 = .ok (.iconst 0, 1) := by decide +kernel
theorem d_Mo_letters_115 : decode b_Mo_letters 115 = .ok (.ireturn, 1) := by decide +kernel
theorem d_Mo_letters_116 : decode b_Mo_letters 116 = .ok (.aload_n 0, 1) := by decide +kernel
theorem d_Mo_letters_117 : decode b_Mo_letters 117 = .ok (.getfield 206, 3) := by decide +kernel
theorem d_Mo_letters_120 : decode b_Mo_letters 120 = .ok (.ifCond .eq 12, 3) := by decide +kernel
theorem d_Mo_letters_123 : decode b_Mo_letters 123 = .ok (.aload_n 0, 1) := by decide +kernel
theorem d_Mo_letters_124 : decode b_Mo_letters 124 = .ok (.iload_n 1, 1) := by decide +kernel
theorem d_Mo_letters_125 : decode b_Mo_letters 125 = .ok (.aload_n 0, 1) := by decide +kernel
theorem d_Mo_letters_126 : decode b_Mo_letters 126 = .ok (.invokevirtual 185, 3) := by decide +kernel
theorem d_Mo_letters_129 : decode b_Mo_letters 129 = .ok (.invokevirtual 210, 3) := by decide +kernel
theorem d_Mo_letters_132 : decode b_Mo_letters 132 = .ok (.iinc 2 1, 3) := by decide +kernel
theorem d_Mo_letters_135 : decode b_Mo_letters 135 = .ok (.aload_n 0, 1) := by decide +kernel
theorem d_Mo_letters_136 : decode b_Mo_letters 136 = .ok (.dup, 1) := by decide +kernel
theorem d_Mo_letters_137 : decode b_Mo_letters 137 = .ok (.getfield 179, 3) := by decide +kernel
theorem d_Mo_letters_140 : decode b_Mo_letters 140 = .ok (.iconst 1, 1) := by decide +kernel
theorem d_Mo_letters_141 : decode b_Mo_letters 141 = .ok (.iadd, 1) := by decide +kernel
theorem d_Mo_letters_142 : decode b_Mo_letters 142 = .ok (.putfield 179, 3) := by decide +kernel
theorem d_Mo_letters_145 : decode b_Mo_letters 145 = .ok (.goto (-104), 3) := by decide +kernel
theorem d_Mo_letters_148 : decode b_Mo_letters 148 = .ok (.aload_n 0, 1) := by decide +kernel
theorem d_Mo_letters_149 : decode b_Mo_letters 149 = .ok (.dup, 1) := by decide +kernel
theorem d_Mo_letters_150 : decode b_Mo_letters 150 = .ok (.getfield 179, 3) := by decide +kernel
theorem d_Mo_letters_153 : decode b_Mo_letters 153 = .ok (.iconst 1, 1) := by decide +kernel
theorem d_Mo_letters_154 : decode b_Mo_letters 154 = .ok (.iadd, 1) := by decide +kernel
theorem d_Mo_letters_155 : decode b_Mo_letters 155 = .ok (.putfield 179, 3) := by decide +kernel
theorem d_Mo_letters_158 : decode b_Mo_letters 158 = .ok (.aload_n 0, 1) := by decide +kernel
theorem d_Mo_letters_159 : decode b_Mo_letters 159 = .ok (.iload_n 1, 1) := by decide +kernel
theorem d_Mo_letters_160 : decode b_Mo_letters 160 = .ok (.putfield 189, 3) := by decide +kernel
theorem d_Mo_letters_163 : decode b_Mo_letters 163 = .ok (.iconst 1, 1) := by decide +kernel
theorem d_Mo_letters_164 : decode b_Mo_letters 164 = .ok (.ireturn, 1) := by decide +kernel
set_option maxHeartbeats 4000000 in
set_option maxRecDepth 100000 in
theorem c_Mo_letters0 (l : Launch) (E : gh_E) (sz : Nat) (f : gh_F) (a : Nat) (ad : Nat → Nat) (S : Nat → Int32) (I : Nat → Nat → Int32) (J : Nat → Nat → Int64) (tx : Nat → Nat) (n pl : Nat) (hX : mo_R E f a ad S I J) (hT : rT tx n S I) (h21 : S 21 = nI pl) (hp : pl ≤ n) (hnq : ¬ sg tx n pl = 34) : gh_M l y_Mo_letters b_Mo_letters 4 (some .boolean) E sz [.ref a] f { frames := 6, cells := 0, slots := 0, locals := 140 } (fun r g => r = some (.int 0) ∧ g = f) := by
  have hsg := (hT.ch pl).1
  refine gh_open (by decide) (Nat.le_of_ble_eq_true rfl) ?_
  intro p e s m args below meth c A ls hAe C V hr hlocks hname hl
  have hx := C.1
  have hb := C.2.1
  have hl : lv_has ls 4 [(0, .ref a)] := hl
  have X : mo_X E f f a ad S I J := ⟨hX, gh_fr.rf⟩
  refine lv_aload_n hx hb d_Mo_letters_0 rfl (lv_at hl 0 rfl) ?_
  refine gh_callV C V hl.1 m_Mo_peek l_Mo_185 (c_Mo_pk l E _ _ a ad _ _ _ tx n pl X.1 hT h21 (by omega)) rfl X.1.1 gc_Mo ⟨by first | decide | omega | (dsimp only; omega), by first | decide | omega | (dsimp only; omega)⟩ ⟨by first | decide | omega | (dsimp only; omega), by first | decide | omega | (dsimp only; omega)⟩ (Nat.le_of_ble_eq_true rfl) rfl d_Mo_letters_1 (fun r z9 H locs hp9 V1 => ?_)
  obtain ⟨rfl, he9⟩ := hp9
  rw [he9] at V1
  have V := V1
  refine W.eq (g2 := F0 m 4 ls [.int (pek (sg tx n pl))]) rfl ?_
  refine lv_bipush (v := 34) hx hb d_Mo_letters_4 (by decide) ?_
  refine lv_icmp_eq (tgt := 11) hx hb d_Mo_letters_6 (by decide) (fun c1 => absurd c1 (fun z => hnq ((pek_eq (k := 34) (by omega) (by omega) (by omega)).mp z))) (fun c1 => ?_)
  refine lv_iconst (v := 0) hx hb d_Mo_letters_9 (by decide) ?_
  refine gh_retz hAe C V hr (by first | rfl | decide) hlocks d_Mo_letters_10 (by first | decide | omega | (dsimp only; omega)) (by first | decide | omega | (dsimp only; omega)) ?_
  exact ⟨rfl, rfl⟩
set_option maxHeartbeats 4000000 in
set_option maxRecDepth 100000 in
theorem c_Mo_lettersF (l : Launch) (E : gh_E) (sz : Nat) (f : gh_F) (a : Nat) (ad : Nat → Nat) (S : Nat → Int32) (I : Nat → Nat → Int32) (J : Nat → Nat → Int64) (tx : Nat → Nat) (n pl : Nat) (nv np : Nat) (hX : mo_R E f a ad S I J) (hT : rT tx n S I) (h21 : S 21 = nI pl) (hp : pl ≤ n) (hqq : sg tx n pl = 34) (h27 : S 27 = 0) : gh_M l y_Mo_letters b_Mo_letters 4 (some .boolean) E sz [.ref a] f { frames := 6, cells := 0, slots := 0, locals := 140 } (fun r g => r = some (.int (gh_bi (rd_s tx n n (pl + 1) []).2.isSome)) ∧ ∃ S2 I2 J2, mo_X E f g a ad S2 I2 J2 ∧ S2 21 = nI (rd_s tx n n (pl + 1) []).1 ∧ rO false S I J nv np ((rd_s tx n n (pl + 1) []).2.map vt_t) S2 I2 J2) := by
  have hsg := fun q => (hT.ch q).1
  have hS21 := h21
  have hS27 := h27
  have hT0 := hT
  have hpn := sg_lt (by omega : sg tx n pl ≠ 0)
  have h120 := hT.2.1
  refine gh_open (by decide) (Nat.le_of_ble_eq_true rfl) ?_
  intro p e s m args below meth c A ls hAe C V hr hlocks hname hl
  have hx := C.1
  have hb := C.2.1
  have hl : lv_has ls 4 [(0, .ref a)] := hl
  have X : mo_X E f f a ad S I J := ⟨hX, gh_fr.rf⟩
  refine lv_aload_n hx hb d_Mo_letters_0 rfl (lv_at hl 0 rfl) ?_
  refine gh_callV C V hl.1 m_Mo_peek l_Mo_185 (c_Mo_pk l E _ _ a ad _ _ _ tx n pl X.1 hT h21 (by omega)) rfl X.1.1 gc_Mo ⟨by first | decide | omega | (dsimp only; omega), by first | decide | omega | (dsimp only; omega)⟩ ⟨by first | decide | omega | (dsimp only; omega), by first | decide | omega | (dsimp only; omega)⟩ (Nat.le_of_ble_eq_true rfl) rfl d_Mo_letters_1 (fun r z9 H locs hp9 V1 => ?_)
  obtain ⟨rfl, he9⟩ := hp9
  rw [he9] at V1
  have V := V1
  refine W.eq (g2 := F0 m 4 ls [.int (pek (sg tx n pl))]) rfl ?_
  refine lv_bipush (v := 34) hx hb d_Mo_letters_4 (by decide) ?_
  refine lv_icmp_eq (tgt := 11) hx hb d_Mo_letters_6 (by decide) (fun c1 => ?_) (fun c1 => absurd ((pek_eq (k := 34) (by omega) (by omega) (by omega)).mpr hqq) c1)
  refine lv_aload_n hx hb d_Mo_letters_11 rfl (lv_at hl 0 rfl) ?_
  refine lv_dup hx hb d_Mo_letters_12 rfl ?_
  refine mo_getS (v := nI pl) C V X 21 (by decide) (by decide) (by first | rfl | exact hS21) f_Mo_179 rfl d_Mo_letters_13 ?_
  refine lv_iconst (v := 1) hx hb d_Mo_letters_16 (by decide) ?_
  refine gn_iadd (a := pl) (b := 1) hx hb d_Mo_letters_17 ?_
  refine mo_putS C V X 21 (by decide) (by decide) f_Mo_179 rfl rfl rfl d_Mo_letters_18 (fun f1 H locs V1 X1 => ?_)
  clear V X
  have V := V1
  have X := X1
  clear V1 X1
  have h21 : (va_up S 21 (nI (pl + 1))) 21 = nI (pl + 1) := va_up_s
  have hS21 := h21
  have hT : rT tx n (va_up S 21 (nI (pl + 1))) I := hT.keep (va_up_n (by decide)) rfl
  refine lv_aload_n hx hb d_Mo_letters_21 rfl (lv_at hl 0 rfl) ?_
  refine mo_getS (v := 0) C V X 27 (by decide) (by decide) (by first | rfl | exact hS27) f_Mo_206 rfl d_Mo_letters_22 ?_
  refine lv_if_eq (tgt := 37) hx hb d_Mo_letters_25 (by decide) (fun c2 => ?_) (fun c2 => absurd (by decide) c2)
  refine lv_iconst (v := 0) hx hb d_Mo_letters_37 (by decide) ?_
  refine lv_istore_n hx hb d_Mo_letters_38 rfl hl (by decide) rfl (fun ls hl => ?_)
  have hl : lv_has ls 4 [(1, .int 0), (0, .ref a)] := hl
  refine lv_iconst (v := 0) hx hb d_Mo_letters_39 (by decide) ?_
  refine lv_istore_n hx hb d_Mo_letters_40 rfl hl (by decide) rfl (fun ls hl => ?_)
  have hl : lv_has ls 4 [(2, .int 0), (1, .int 0), (0, .ref a)] := hl
  have hl : lv_has ls 4 [(2, .int 0), (0, .ref a), (1, .int 0)] := lv_sub hl [0, 2, 1] rfl
  have hl : lv_has ls 4 [(2, .int (nI ([] : List Int32).length)), (0, .ref a), (1, .int (0))] := hl
  have loop : ∀ (m9 p9 : Nat) (L : List Int32) (S1 : Nat → Int32) (I1 : mo_I) (J1 : mo_J) (f1 : gh_F) (H : Heap) (locs : List Loc) (ls : Array Slot), n ≤ p9 + m9 → p9 ≤ n → S1 21 = nI p9 → lt_ok L → rd_s tx n m9 p9 L = rd_s tx n n (pl + 1) [] → I1 = I → J1 = J → (∀ k, k ≠ 21 → S1 k = S k) → mo_X E f f1 a ad S1 I1 J1 → gh_V E A f1 s H locs → lv_has ls 4 [(2, .int (nI L.length)), (0, .ref a), (1, .int (0))] → W p l e { frames := 6, cells := 0, slots := 0, locals := 140 } s m args below meth c H locs 0 0 (MQ below (gh_Q E f (fun r g => r = some (.int (gh_bi (rd_s tx n n (pl + 1) []).2.isSome)) ∧ ∃ S2 I2 J2, mo_X E f g a ad S2 I2 J2 ∧ S2 21 = nI (rd_s tx n n (pl + 1) []).1 ∧ rO false S I J nv np ((rd_s tx n n (pl + 1) []).2.map vt_t) S2 I2 J2)) args s 0 0 A) (F0 m 41 ls []) := by
    intro m9
    induction m9 with
    | zero =>
      intro p9 L S1 I1 J1 f1 H locs ls hm hp9 h21 hLk hrd hI hJ hS X V hl
      rw [hI, hJ] at X
      have hT : rT tx n S1 I := hT0.keep (hS 20 (by decide)) rfl
      have hS21 := h21
      have hS27 : S1 27 = 0 := (hS 27 (by decide)).trans h27
      have hL24 := hLk.1
      have hs0 := hsg p9
      have hz : sg tx n p9 = 0 := by unfold sg; rw [if_neg (by omega)]
      refine lv_aload_n hx hb d_Mo_letters_41 rfl (lv_at hl 1 rfl) ?_
      refine gh_callV C V hl.1 m_Mo_peek l_Mo_185 (c_Mo_pk l E _ _ a ad _ _ _ tx n p9 X.1 hT h21 (by omega)) rfl X.1.1 gc_Mo ⟨by first | decide | omega | (dsimp only; omega), by first | decide | omega | (dsimp only; omega)⟩ ⟨by first | decide | omega | (dsimp only; omega), by first | decide | omega | (dsimp only; omega)⟩ (Nat.le_of_ble_eq_true rfl) rfl d_Mo_letters_42 (fun r z9 H locs hp9 V1 => ?_)
      obtain ⟨rfl, he9⟩ := hp9
      rw [he9] at V1
      have V := V1
      refine W.eq (g2 := F0 m 45 ls [.int (pek (sg tx n p9))]) rfl ?_
      refine lv_bipush (v := 34) hx hb d_Mo_letters_45 (by decide) ?_
      refine lv_icmp_eq (tgt := 148) hx hb d_Mo_letters_47 (by decide) (fun c3 => absurd c3 (fun z => (fun z => by omega) ((pek_eq (k := 34) (by omega) (by omega) (by omega)).mp z))) (fun c3 => ?_)
      refine lv_aload_n hx hb d_Mo_letters_50 rfl (lv_at hl 1 rfl) ?_
      refine gh_callV C V hl.1 m_Mo_peek l_Mo_185 (c_Mo_pk l E _ _ a ad _ _ _ tx n p9 X.1 hT h21 (by omega)) rfl X.1.1 gc_Mo ⟨by first | decide | omega | (dsimp only; omega), by first | decide | omega | (dsimp only; omega)⟩ ⟨by first | decide | omega | (dsimp only; omega), by first | decide | omega | (dsimp only; omega)⟩ (Nat.le_of_ble_eq_true rfl) rfl d_Mo_letters_51 (fun r z9 H locs hp9 V1 => ?_)
      obtain ⟨rfl, he9⟩ := hp9
      rw [he9] at V1
      have V := V1
      refine W.eq (g2 := F0 m 54 ls [.int (pek (sg tx n p9))]) rfl ?_
      refine lv_bipush (v := 92) hx hb d_Mo_letters_54 (by decide) ?_
      refine lv_icmp_ne (tgt := 63) hx hb d_Mo_letters_56 (by decide) (fun c4 => ?_) (fun c4 => absurd c4 (fun z => (fun z => by omega) ((pek_eq (k := 92) (by omega) (by omega) (by omega)).mp z)))
      refine lv_iconst (v := 0) hx hb d_Mo_letters_63 (by decide) ?_
      refine lv_istore_n hx hb d_Mo_letters_64 rfl hl (by decide) rfl (fun ls hl => ?_)
      have hl : lv_has ls 4 [(3, .int 0), (2, .int (nI L.length)), (0, .ref a), (1, .int 0)] := hl
      refine lv_iload_n hx hb d_Mo_letters_65 rfl (lv_at hl 0 rfl) ?_
      refine lv_if_eq (tgt := 79) hx hb d_Mo_letters_66 (by decide) (fun c5 => ?_) (fun c5 => absurd (by decide) c5)
      refine lv_iload_n hx hb d_Mo_letters_79 rfl (lv_at hl 0 rfl) ?_
      refine lv_if_eq (tgt := 101) hx hb d_Mo_letters_80 (by decide) (fun c6 => ?_) (fun c6 => absurd (by decide) c6)
      refine lv_aload_n hx hb d_Mo_letters_101 rfl (lv_at hl 2 rfl) ?_
      refine gh_callV C V hl.1 m_Mo_peek l_Mo_185 (c_Mo_pk l E _ _ a ad _ _ _ tx n p9 X.1 hT h21 (by omega)) rfl X.1.1 gc_Mo ⟨by first | decide | omega | (dsimp only; omega), by first | decide | omega | (dsimp only; omega)⟩ ⟨by first | decide | omega | (dsimp only; omega), by first | decide | omega | (dsimp only; omega)⟩ (Nat.le_of_ble_eq_true rfl) rfl d_Mo_letters_102 (fun r z9 H locs hp9 V1 => ?_)
      obtain ⟨rfl, he9⟩ := hp9
      rw [he9] at V1
      have V := V1
      refine W.eq (g2 := F0 m 105 ls [.int (pek (sg tx n p9))]) rfl ?_
      refine lv_if_lt (tgt := 114) hx hb d_Mo_letters_105 (by decide) (fun c7 => ?_) (fun c7 => absurd ((pek_0 (by omega)).mpr hz) c7)
      refine lv_iconst (v := 0) hx hb d_Mo_letters_114 (by decide) ?_
      refine gh_retz hAe C V hr (by first | rfl | decide) hlocks d_Mo_letters_115 (by first | decide | omega | (dsimp only; omega)) (by first | decide | omega | (dsimp only; omega)) ?_
      rw [← hrd]
      have hrd2 : rd_s tx n 0 p9 L = (p9, none) := rfl
      rw [hrd2]
      refine ⟨rfl, _, _, _, X, h21, ⟨fun _ => ⟨fun k a1 a2 => ?_, rfl, rfl⟩, fun z => by cases z⟩⟩
      first | exact hS k a1 | (rw [va_up_n a1]; exact hS k a1)
    | succ m9 ih =>
      intro p9 L S1 I1 J1 f1 H locs ls hm hp9 h21 hLk hrd hI hJ hS X V hl
      rw [hI, hJ] at X
      have hT : rT tx n S1 I := hT0.keep (hS 20 (by decide)) rfl
      have hS21 := h21
      have hS27 : S1 27 = 0 := (hS 27 (by decide)).trans h27
      have hL24 := hLk.1
      have hs0 := hsg p9
      by_cases hnp : n ≤ p9
      · refine lv_aload_n hx hb d_Mo_letters_41 rfl (lv_at hl 1 rfl) ?_
        refine gh_callV C V hl.1 m_Mo_peek l_Mo_185 (c_Mo_pk l E _ _ a ad _ _ _ tx n p9 X.1 hT h21 (by omega)) rfl X.1.1 gc_Mo ⟨by first | decide | omega | (dsimp only; omega), by first | decide | omega | (dsimp only; omega)⟩ ⟨by first | decide | omega | (dsimp only; omega), by first | decide | omega | (dsimp only; omega)⟩ (Nat.le_of_ble_eq_true rfl) rfl d_Mo_letters_42 (fun r z9 H locs hp9 V1 => ?_)
        obtain ⟨rfl, he9⟩ := hp9
        rw [he9] at V1
        have V := V1
        refine W.eq (g2 := F0 m 45 ls [.int (pek (sg tx n p9))]) rfl ?_
        refine lv_bipush (v := 34) hx hb d_Mo_letters_45 (by decide) ?_
        refine lv_icmp_eq (tgt := 148) hx hb d_Mo_letters_47 (by decide) (fun c8 => absurd c8 (fun z => (fun z => by have := sg_lt (by omega : sg tx n p9 ≠ 0); omega) ((pek_eq (k := 34) (by omega) (by omega) (by omega)).mp z))) (fun c8 => ?_)
        refine lv_aload_n hx hb d_Mo_letters_50 rfl (lv_at hl 1 rfl) ?_
        refine gh_callV C V hl.1 m_Mo_peek l_Mo_185 (c_Mo_pk l E _ _ a ad _ _ _ tx n p9 X.1 hT h21 (by omega)) rfl X.1.1 gc_Mo ⟨by first | decide | omega | (dsimp only; omega), by first | decide | omega | (dsimp only; omega)⟩ ⟨by first | decide | omega | (dsimp only; omega), by first | decide | omega | (dsimp only; omega)⟩ (Nat.le_of_ble_eq_true rfl) rfl d_Mo_letters_51 (fun r z9 H locs hp9 V1 => ?_)
        obtain ⟨rfl, he9⟩ := hp9
        rw [he9] at V1
        have V := V1
        refine W.eq (g2 := F0 m 54 ls [.int (pek (sg tx n p9))]) rfl ?_
        refine lv_bipush (v := 92) hx hb d_Mo_letters_54 (by decide) ?_
        refine lv_icmp_ne (tgt := 63) hx hb d_Mo_letters_56 (by decide) (fun c9 => ?_) (fun c9 => absurd c9 (fun z => (fun z => by have := sg_lt (by omega : sg tx n p9 ≠ 0); omega) ((pek_eq (k := 92) (by omega) (by omega) (by omega)).mp z)))
        refine lv_iconst (v := 0) hx hb d_Mo_letters_63 (by decide) ?_
        refine lv_istore_n hx hb d_Mo_letters_64 rfl hl (by decide) rfl (fun ls hl => ?_)
        have hl : lv_has ls 4 [(3, .int 0), (2, .int (nI L.length)), (0, .ref a), (1, .int 0)] := hl
        refine lv_iload_n hx hb d_Mo_letters_65 rfl (lv_at hl 0 rfl) ?_
        refine lv_if_eq (tgt := 79) hx hb d_Mo_letters_66 (by decide) (fun c10 => ?_) (fun c10 => absurd (by decide) c10)
        refine lv_iload_n hx hb d_Mo_letters_79 rfl (lv_at hl 0 rfl) ?_
        refine lv_if_eq (tgt := 101) hx hb d_Mo_letters_80 (by decide) (fun c11 => ?_) (fun c11 => absurd (by decide) c11)
        refine lv_aload_n hx hb d_Mo_letters_101 rfl (lv_at hl 2 rfl) ?_
        refine gh_callV C V hl.1 m_Mo_peek l_Mo_185 (c_Mo_pk l E _ _ a ad _ _ _ tx n p9 X.1 hT h21 (by omega)) rfl X.1.1 gc_Mo ⟨by first | decide | omega | (dsimp only; omega), by first | decide | omega | (dsimp only; omega)⟩ ⟨by first | decide | omega | (dsimp only; omega), by first | decide | omega | (dsimp only; omega)⟩ (Nat.le_of_ble_eq_true rfl) rfl d_Mo_letters_102 (fun r z9 H locs hp9 V1 => ?_)
        obtain ⟨rfl, he9⟩ := hp9
        rw [he9] at V1
        have V := V1
        refine W.eq (g2 := F0 m 105 ls [.int (pek (sg tx n p9))]) rfl ?_
        refine lv_if_lt (tgt := 114) hx hb d_Mo_letters_105 (by decide) (fun c12 => ?_) (fun c12 => absurd ((pek_0 (by omega)).mpr (by unfold sg; rw [if_neg (by omega)])) c12)
        refine lv_iconst (v := 0) hx hb d_Mo_letters_114 (by decide) ?_
        refine gh_retz hAe C V hr (by first | rfl | decide) hlocks d_Mo_letters_115 (by first | decide | omega | (dsimp only; omega)) (by first | decide | omega | (dsimp only; omega)) ?_
        rw [← hrd]
        rw [rd_s_o, if_pos hnp]
        refine ⟨rfl, _, _, _, X, h21, ⟨fun _ => ⟨fun k a1 a2 => ?_, rfl, rfl⟩, fun z => by cases z⟩⟩
        first | exact hS k a1 | (rw [va_up_n a1]; exact hS k a1)
      · have htx : sg tx n p9 = tx p9 := ((hT.ch p9).2 (by omega)).1
        have h32 := ((hT.ch p9).2 (by omega)).2
        by_cases hq : tx p9 = 34
        · refine lv_aload_n hx hb d_Mo_letters_41 rfl (lv_at hl 1 rfl) ?_
          refine gh_callV C V hl.1 m_Mo_peek l_Mo_185 (c_Mo_pk l E _ _ a ad _ _ _ tx n p9 X.1 hT h21 (by omega)) rfl X.1.1 gc_Mo ⟨by first | decide | omega | (dsimp only; omega), by first | decide | omega | (dsimp only; omega)⟩ ⟨by first | decide | omega | (dsimp only; omega), by first | decide | omega | (dsimp only; omega)⟩ (Nat.le_of_ble_eq_true rfl) rfl d_Mo_letters_42 (fun r z9 H locs hp9 V1 => ?_)
          obtain ⟨rfl, he9⟩ := hp9
          rw [he9] at V1
          have V := V1
          refine W.eq (g2 := F0 m 45 ls [.int (pek (sg tx n p9))]) rfl ?_
          refine lv_bipush (v := 34) hx hb d_Mo_letters_45 (by decide) ?_
          refine lv_icmp_eq (tgt := 148) hx hb d_Mo_letters_47 (by decide) (fun c13 => ?_) (fun c13 => absurd ((pek_eq (k := 34) (by omega) (by omega) (by omega)).mpr (by omega)) c13)
          refine lv_aload_n hx hb d_Mo_letters_148 rfl (lv_at hl 1 rfl) ?_
          refine lv_dup hx hb d_Mo_letters_149 rfl ?_
          refine mo_getS (v := nI p9) C V X 21 (by decide) (by decide) (by first | rfl | exact hS21) f_Mo_179 rfl d_Mo_letters_150 ?_
          refine lv_iconst (v := 1) hx hb d_Mo_letters_153 (by decide) ?_
          refine gn_iadd (a := p9) (b := 1) hx hb d_Mo_letters_154 ?_
          refine mo_putS C V X 21 (by decide) (by decide) f_Mo_179 rfl rfl rfl d_Mo_letters_155 (fun f1 H locs V1 X1 => ?_)
          clear V X
          have V := V1
          have X := X1
          clear V1 X1
          have h21 : (va_up S1 21 (nI (p9 + 1))) 21 = nI (p9 + 1) := va_up_s
          have hS21 := h21
          have hT : rT tx n (va_up S1 21 (nI (p9 + 1))) I := hT.keep (va_up_n (by decide)) rfl
          refine lv_aload_n hx hb d_Mo_letters_158 rfl (lv_at hl 1 rfl) ?_
          refine lv_iload_n hx hb d_Mo_letters_159 rfl (lv_at hl 2 rfl) ?_
          refine mo_putS C V X 28 (by decide) (by decide) f_Mo_189 rfl rfl rfl d_Mo_letters_160 (fun f1 H locs V1 X1 => ?_)
          clear V X
          have V := V1
          have X := X1
          clear V1 X1
          refine lv_iconst (v := 1) hx hb d_Mo_letters_163 (by decide) ?_
          refine gh_retz hAe C V hr (by first | rfl | decide) hlocks d_Mo_letters_164 (by first | decide | omega | (dsimp only; omega)) (by first | decide | omega | (dsimp only; omega)) ?_
          rw [← hrd]
          rw [rd_s_o, if_neg hnp, if_pos hq]
          exact ⟨rfl, _, _, _, X, by simp [va_up], ⟨fun _ => ⟨fun k a1 a2 => by rw [va_up_n a2, va_up_n a1]; exact hS k a1, rfl, rfl⟩, fun z => (by cases z)⟩⟩
        · by_cases hbs : tx p9 = 92
          · have hs1 := hsg (p9 + 1)
            by_cases hes : (sg tx n (p9 + 1) ≠ 34 ∧ sg tx n (p9 + 1) ≠ 92) ∨ 24 ≤ L.length
            · by_cases he2 : sg tx n (p9 + 1) ≠ 34 ∧ sg tx n (p9 + 1) ≠ 92
              · refine lv_aload_n hx hb d_Mo_letters_41 rfl (lv_at hl 1 rfl) ?_
                refine gh_callV C V hl.1 m_Mo_peek l_Mo_185 (c_Mo_pk l E _ _ a ad _ _ _ tx n p9 X.1 hT h21 (by omega)) rfl X.1.1 gc_Mo ⟨by first | decide | omega | (dsimp only; omega), by first | decide | omega | (dsimp only; omega)⟩ ⟨by first | decide | omega | (dsimp only; omega), by first | decide | omega | (dsimp only; omega)⟩ (Nat.le_of_ble_eq_true rfl) rfl d_Mo_letters_42 (fun r z9 H locs hp9 V1 => ?_)
                obtain ⟨rfl, he9⟩ := hp9
                rw [he9] at V1
                have V := V1
                refine W.eq (g2 := F0 m 45 ls [.int (pek (sg tx n p9))]) rfl ?_
                refine lv_bipush (v := 34) hx hb d_Mo_letters_45 (by decide) ?_
                refine lv_icmp_eq (tgt := 148) hx hb d_Mo_letters_47 (by decide) (fun c14 => absurd c14 (fun z => (fun z => by omega) ((pek_eq (k := 34) (by omega) (by omega) (by omega)).mp z))) (fun c14 => ?_)
                refine lv_aload_n hx hb d_Mo_letters_50 rfl (lv_at hl 1 rfl) ?_
                refine gh_callV C V hl.1 m_Mo_peek l_Mo_185 (c_Mo_pk l E _ _ a ad _ _ _ tx n p9 X.1 hT h21 (by omega)) rfl X.1.1 gc_Mo ⟨by first | decide | omega | (dsimp only; omega), by first | decide | omega | (dsimp only; omega)⟩ ⟨by first | decide | omega | (dsimp only; omega), by first | decide | omega | (dsimp only; omega)⟩ (Nat.le_of_ble_eq_true rfl) rfl d_Mo_letters_51 (fun r z9 H locs hp9 V1 => ?_)
                obtain ⟨rfl, he9⟩ := hp9
                rw [he9] at V1
                have V := V1
                refine W.eq (g2 := F0 m 54 ls [.int (pek (sg tx n p9))]) rfl ?_
                refine lv_bipush (v := 92) hx hb d_Mo_letters_54 (by decide) ?_
                refine lv_icmp_ne (tgt := 63) hx hb d_Mo_letters_56 (by decide) (fun c15 => absurd ((pek_eq (k := 92) (by omega) (by omega) (by omega)).mpr (by omega)) c15) (fun c15 => ?_)
                refine lv_iconst (v := 1) hx hb d_Mo_letters_59 (by decide) ?_
                refine lv_goto (tgt := 64) hx hb d_Mo_letters_60 (by decide) ?_
                refine lv_istore_n hx hb d_Mo_letters_64 rfl hl (by decide) rfl (fun ls hl => ?_)
                have hl : lv_has ls 4 [(3, .int 1), (2, .int (nI L.length)), (0, .ref a), (1, .int 0)] := hl
                refine lv_iload_n hx hb d_Mo_letters_65 rfl (lv_at hl 0 rfl) ?_
                refine lv_if_eq (tgt := 79) hx hb d_Mo_letters_66 (by decide) (fun c16 => absurd c16 (by decide)) (fun c16 => ?_)
                refine lv_aload_n hx hb d_Mo_letters_69 rfl (lv_at hl 2 rfl) ?_
                refine lv_dup hx hb d_Mo_letters_70 rfl ?_
                refine mo_getS (v := nI p9) C V X 21 (by decide) (by decide) (by first | rfl | exact hS21) f_Mo_179 rfl d_Mo_letters_71 ?_
                refine lv_iconst (v := 1) hx hb d_Mo_letters_74 (by decide) ?_
                refine gn_iadd (a := p9) (b := 1) hx hb d_Mo_letters_75 ?_
                refine mo_putS C V X 21 (by decide) (by decide) f_Mo_179 rfl rfl rfl d_Mo_letters_76 (fun f1 H locs V1 X1 => ?_)
                clear V X
                have V := V1
                have X := X1
                clear V1 X1
                have h21 : (va_up S1 21 (nI (p9 + 1))) 21 = nI (p9 + 1) := va_up_s
                have hS21 := h21
                have hT : rT tx n (va_up S1 21 (nI (p9 + 1))) I := hT.keep (va_up_n (by decide)) rfl
                refine lv_iload_n hx hb d_Mo_letters_79 rfl (lv_at hl 0 rfl) ?_
                refine lv_if_eq (tgt := 101) hx hb d_Mo_letters_80 (by decide) (fun c17 => absurd c17 (by decide)) (fun c17 => ?_)
                refine lv_aload_n hx hb d_Mo_letters_83 rfl (lv_at hl 2 rfl) ?_
                refine gh_callV C V hl.1 m_Mo_peek l_Mo_185 (c_Mo_pk l E _ _ a ad _ _ _ tx n (p9 + 1) X.1 hT h21 (by omega)) rfl X.1.1 gc_Mo ⟨by first | decide | omega | (dsimp only; omega), by first | decide | omega | (dsimp only; omega)⟩ ⟨by first | decide | omega | (dsimp only; omega), by first | decide | omega | (dsimp only; omega)⟩ (Nat.le_of_ble_eq_true rfl) rfl d_Mo_letters_84 (fun r z9 H locs hp9 V1 => ?_)
                obtain ⟨rfl, he9⟩ := hp9
                rw [he9] at V1
                have V := V1
                refine W.eq (g2 := F0 m 87 ls [.int (pek (sg tx n (p9 + 1)))]) rfl ?_
                refine lv_bipush (v := 92) hx hb d_Mo_letters_87 (by decide) ?_
                refine lv_icmp_eq (tgt := 101) hx hb d_Mo_letters_89 (by decide) (fun c18 => absurd c18 (fun z => he2.2 ((pek_eq (k := 92) (by omega) (by omega) (by omega)).mp z))) (fun c18 => ?_)
                refine lv_aload_n hx hb d_Mo_letters_92 rfl (lv_at hl 2 rfl) ?_
                refine gh_callV C V hl.1 m_Mo_peek l_Mo_185 (c_Mo_pk l E _ _ a ad _ _ _ tx n (p9 + 1) X.1 hT h21 (by omega)) rfl X.1.1 gc_Mo ⟨by first | decide | omega | (dsimp only; omega), by first | decide | omega | (dsimp only; omega)⟩ ⟨by first | decide | omega | (dsimp only; omega), by first | decide | omega | (dsimp only; omega)⟩ (Nat.le_of_ble_eq_true rfl) rfl d_Mo_letters_93 (fun r z9 H locs hp9 V1 => ?_)
                obtain ⟨rfl, he9⟩ := hp9
                rw [he9] at V1
                have V := V1
                refine W.eq (g2 := F0 m 96 ls [.int (pek (sg tx n (p9 + 1)))]) rfl ?_
                refine lv_bipush (v := 34) hx hb d_Mo_letters_96 (by decide) ?_
                refine lv_icmp_ne (tgt := 114) hx hb d_Mo_letters_98 (by decide) (fun c19 => ?_) (fun c19 => absurd c19 (fun z => he2.1 ((pek_eq (k := 34) (by omega) (by omega) (by omega)).mp z)))
                refine lv_iconst (v := 0) hx hb d_Mo_letters_114 (by decide) ?_
                refine gh_retz hAe C V hr (by first | rfl | decide) hlocks d_Mo_letters_115 (by first | decide | omega | (dsimp only; omega)) (by first | decide | omega | (dsimp only; omega)) ?_
                rw [← hrd]
                rw [rd_s_o, if_neg hnp, if_neg hq, if_pos hbs, if_pos hes]
                refine ⟨rfl, _, _, _, X, h21, ⟨fun _ => ⟨fun k a1 a2 => ?_, rfl, rfl⟩, fun z => by cases z⟩⟩
                first | exact hS k a1 | (rw [va_up_n a1]; exact hS k a1)
              · have h24 : L.length = 24 := by omega
                by_cases he3 : sg tx n (p9 + 1) = 92
                · refine lv_aload_n hx hb d_Mo_letters_41 rfl (lv_at hl 1 rfl) ?_
                  refine gh_callV C V hl.1 m_Mo_peek l_Mo_185 (c_Mo_pk l E _ _ a ad _ _ _ tx n p9 X.1 hT h21 (by omega)) rfl X.1.1 gc_Mo ⟨by first | decide | omega | (dsimp only; omega), by first | decide | omega | (dsimp only; omega)⟩ ⟨by first | decide | omega | (dsimp only; omega), by first | decide | omega | (dsimp only; omega)⟩ (Nat.le_of_ble_eq_true rfl) rfl d_Mo_letters_42 (fun r z9 H locs hp9 V1 => ?_)
                  obtain ⟨rfl, he9⟩ := hp9
                  rw [he9] at V1
                  have V := V1
                  refine W.eq (g2 := F0 m 45 ls [.int (pek (sg tx n p9))]) rfl ?_
                  refine lv_bipush (v := 34) hx hb d_Mo_letters_45 (by decide) ?_
                  refine lv_icmp_eq (tgt := 148) hx hb d_Mo_letters_47 (by decide) (fun c20 => absurd c20 (fun z => (fun z => by omega) ((pek_eq (k := 34) (by omega) (by omega) (by omega)).mp z))) (fun c20 => ?_)
                  refine lv_aload_n hx hb d_Mo_letters_50 rfl (lv_at hl 1 rfl) ?_
                  refine gh_callV C V hl.1 m_Mo_peek l_Mo_185 (c_Mo_pk l E _ _ a ad _ _ _ tx n p9 X.1 hT h21 (by omega)) rfl X.1.1 gc_Mo ⟨by first | decide | omega | (dsimp only; omega), by first | decide | omega | (dsimp only; omega)⟩ ⟨by first | decide | omega | (dsimp only; omega), by first | decide | omega | (dsimp only; omega)⟩ (Nat.le_of_ble_eq_true rfl) rfl d_Mo_letters_51 (fun r z9 H locs hp9 V1 => ?_)
                  obtain ⟨rfl, he9⟩ := hp9
                  rw [he9] at V1
                  have V := V1
                  refine W.eq (g2 := F0 m 54 ls [.int (pek (sg tx n p9))]) rfl ?_
                  refine lv_bipush (v := 92) hx hb d_Mo_letters_54 (by decide) ?_
                  refine lv_icmp_ne (tgt := 63) hx hb d_Mo_letters_56 (by decide) (fun c21 => absurd ((pek_eq (k := 92) (by omega) (by omega) (by omega)).mpr (by omega)) c21) (fun c21 => ?_)
                  refine lv_iconst (v := 1) hx hb d_Mo_letters_59 (by decide) ?_
                  refine lv_goto (tgt := 64) hx hb d_Mo_letters_60 (by decide) ?_
                  refine lv_istore_n hx hb d_Mo_letters_64 rfl hl (by decide) rfl (fun ls hl => ?_)
                  have hl : lv_has ls 4 [(3, .int 1), (2, .int (nI L.length)), (0, .ref a), (1, .int 0)] := hl
                  refine lv_iload_n hx hb d_Mo_letters_65 rfl (lv_at hl 0 rfl) ?_
                  refine lv_if_eq (tgt := 79) hx hb d_Mo_letters_66 (by decide) (fun c22 => absurd c22 (by decide)) (fun c22 => ?_)
                  refine lv_aload_n hx hb d_Mo_letters_69 rfl (lv_at hl 2 rfl) ?_
                  refine lv_dup hx hb d_Mo_letters_70 rfl ?_
                  refine mo_getS (v := nI p9) C V X 21 (by decide) (by decide) (by first | rfl | exact hS21) f_Mo_179 rfl d_Mo_letters_71 ?_
                  refine lv_iconst (v := 1) hx hb d_Mo_letters_74 (by decide) ?_
                  refine gn_iadd (a := p9) (b := 1) hx hb d_Mo_letters_75 ?_
                  refine mo_putS C V X 21 (by decide) (by decide) f_Mo_179 rfl rfl rfl d_Mo_letters_76 (fun f1 H locs V1 X1 => ?_)
                  clear V X
                  have V := V1
                  have X := X1
                  clear V1 X1
                  have h21 : (va_up S1 21 (nI (p9 + 1))) 21 = nI (p9 + 1) := va_up_s
                  have hS21 := h21
                  have hT : rT tx n (va_up S1 21 (nI (p9 + 1))) I := hT.keep (va_up_n (by decide)) rfl
                  refine lv_iload_n hx hb d_Mo_letters_79 rfl (lv_at hl 0 rfl) ?_
                  refine lv_if_eq (tgt := 101) hx hb d_Mo_letters_80 (by decide) (fun c23 => absurd c23 (by decide)) (fun c23 => ?_)
                  refine lv_aload_n hx hb d_Mo_letters_83 rfl (lv_at hl 2 rfl) ?_
                  refine gh_callV C V hl.1 m_Mo_peek l_Mo_185 (c_Mo_pk l E _ _ a ad _ _ _ tx n (p9 + 1) X.1 hT h21 (by omega)) rfl X.1.1 gc_Mo ⟨by first | decide | omega | (dsimp only; omega), by first | decide | omega | (dsimp only; omega)⟩ ⟨by first | decide | omega | (dsimp only; omega), by first | decide | omega | (dsimp only; omega)⟩ (Nat.le_of_ble_eq_true rfl) rfl d_Mo_letters_84 (fun r z9 H locs hp9 V1 => ?_)
                  obtain ⟨rfl, he9⟩ := hp9
                  rw [he9] at V1
                  have V := V1
                  refine W.eq (g2 := F0 m 87 ls [.int (pek (sg tx n (p9 + 1)))]) rfl ?_
                  refine lv_bipush (v := 92) hx hb d_Mo_letters_87 (by decide) ?_
                  refine lv_icmp_eq (tgt := 101) hx hb d_Mo_letters_89 (by decide) (fun c24 => ?_) (fun c24 => absurd ((pek_eq (k := 92) (by omega) (by omega) (by omega)).mpr he3) c24)
                  refine lv_aload_n hx hb d_Mo_letters_101 rfl (lv_at hl 2 rfl) ?_
                  refine gh_callV C V hl.1 m_Mo_peek l_Mo_185 (c_Mo_pk l E _ _ a ad _ _ _ tx n (p9 + 1) X.1 hT h21 (by omega)) rfl X.1.1 gc_Mo ⟨by first | decide | omega | (dsimp only; omega), by first | decide | omega | (dsimp only; omega)⟩ ⟨by first | decide | omega | (dsimp only; omega), by first | decide | omega | (dsimp only; omega)⟩ (Nat.le_of_ble_eq_true rfl) rfl d_Mo_letters_102 (fun r z9 H locs hp9 V1 => ?_)
                  obtain ⟨rfl, he9⟩ := hp9
                  rw [he9] at V1
                  have V := V1
                  refine W.eq (g2 := F0 m 105 ls [.int (pek (sg tx n (p9 + 1)))]) rfl ?_
                  refine lv_if_lt (tgt := 114) hx hb d_Mo_letters_105 (by decide) (fun c25 => absurd c25 (fun z => absurd ((pek_0 (by omega)).mp z) (by omega))) (fun c25 => ?_)
                  refine lv_iload_n hx hb d_Mo_letters_108 rfl (lv_at hl 1 rfl) ?_
                  refine lv_bipush (v := 24) hx hb d_Mo_letters_109 (by decide) ?_
                  refine lv_icmp_ne (tgt := 116) hx hb d_Mo_letters_111 (by decide) (fun c26 => absurd (by rw [h24]; rfl) c26) (fun c26 => ?_)
                  refine lv_iconst (v := 0) hx hb d_Mo_letters_114 (by decide) ?_
                  refine gh_retz hAe C V hr (by first | rfl | decide) hlocks d_Mo_letters_115 (by first | decide | omega | (dsimp only; omega)) (by first | decide | omega | (dsimp only; omega)) ?_
                  rw [← hrd]
                  rw [rd_s_o, if_neg hnp, if_neg hq, if_pos hbs, if_pos hes]
                  refine ⟨rfl, _, _, _, X, h21, ⟨fun _ => ⟨fun k a1 a2 => ?_, rfl, rfl⟩, fun z => by cases z⟩⟩
                  first | exact hS k a1 | (rw [va_up_n a1]; exact hS k a1)
                · refine lv_aload_n hx hb d_Mo_letters_41 rfl (lv_at hl 1 rfl) ?_
                  refine gh_callV C V hl.1 m_Mo_peek l_Mo_185 (c_Mo_pk l E _ _ a ad _ _ _ tx n p9 X.1 hT h21 (by omega)) rfl X.1.1 gc_Mo ⟨by first | decide | omega | (dsimp only; omega), by first | decide | omega | (dsimp only; omega)⟩ ⟨by first | decide | omega | (dsimp only; omega), by first | decide | omega | (dsimp only; omega)⟩ (Nat.le_of_ble_eq_true rfl) rfl d_Mo_letters_42 (fun r z9 H locs hp9 V1 => ?_)
                  obtain ⟨rfl, he9⟩ := hp9
                  rw [he9] at V1
                  have V := V1
                  refine W.eq (g2 := F0 m 45 ls [.int (pek (sg tx n p9))]) rfl ?_
                  refine lv_bipush (v := 34) hx hb d_Mo_letters_45 (by decide) ?_
                  refine lv_icmp_eq (tgt := 148) hx hb d_Mo_letters_47 (by decide) (fun c27 => absurd c27 (fun z => (fun z => by omega) ((pek_eq (k := 34) (by omega) (by omega) (by omega)).mp z))) (fun c27 => ?_)
                  refine lv_aload_n hx hb d_Mo_letters_50 rfl (lv_at hl 1 rfl) ?_
                  refine gh_callV C V hl.1 m_Mo_peek l_Mo_185 (c_Mo_pk l E _ _ a ad _ _ _ tx n p9 X.1 hT h21 (by omega)) rfl X.1.1 gc_Mo ⟨by first | decide | omega | (dsimp only; omega), by first | decide | omega | (dsimp only; omega)⟩ ⟨by first | decide | omega | (dsimp only; omega), by first | decide | omega | (dsimp only; omega)⟩ (Nat.le_of_ble_eq_true rfl) rfl d_Mo_letters_51 (fun r z9 H locs hp9 V1 => ?_)
                  obtain ⟨rfl, he9⟩ := hp9
                  rw [he9] at V1
                  have V := V1
                  refine W.eq (g2 := F0 m 54 ls [.int (pek (sg tx n p9))]) rfl ?_
                  refine lv_bipush (v := 92) hx hb d_Mo_letters_54 (by decide) ?_
                  refine lv_icmp_ne (tgt := 63) hx hb d_Mo_letters_56 (by decide) (fun c28 => absurd ((pek_eq (k := 92) (by omega) (by omega) (by omega)).mpr (by omega)) c28) (fun c28 => ?_)
                  refine lv_iconst (v := 1) hx hb d_Mo_letters_59 (by decide) ?_
                  refine lv_goto (tgt := 64) hx hb d_Mo_letters_60 (by decide) ?_
                  refine lv_istore_n hx hb d_Mo_letters_64 rfl hl (by decide) rfl (fun ls hl => ?_)
                  have hl : lv_has ls 4 [(3, .int 1), (2, .int (nI L.length)), (0, .ref a), (1, .int 0)] := hl
                  refine lv_iload_n hx hb d_Mo_letters_65 rfl (lv_at hl 0 rfl) ?_
                  refine lv_if_eq (tgt := 79) hx hb d_Mo_letters_66 (by decide) (fun c29 => absurd c29 (by decide)) (fun c29 => ?_)
                  refine lv_aload_n hx hb d_Mo_letters_69 rfl (lv_at hl 2 rfl) ?_
                  refine lv_dup hx hb d_Mo_letters_70 rfl ?_
                  refine mo_getS (v := nI p9) C V X 21 (by decide) (by decide) (by first | rfl | exact hS21) f_Mo_179 rfl d_Mo_letters_71 ?_
                  refine lv_iconst (v := 1) hx hb d_Mo_letters_74 (by decide) ?_
                  refine gn_iadd (a := p9) (b := 1) hx hb d_Mo_letters_75 ?_
                  refine mo_putS C V X 21 (by decide) (by decide) f_Mo_179 rfl rfl rfl d_Mo_letters_76 (fun f1 H locs V1 X1 => ?_)
                  clear V X
                  have V := V1
                  have X := X1
                  clear V1 X1
                  have h21 : (va_up S1 21 (nI (p9 + 1))) 21 = nI (p9 + 1) := va_up_s
                  have hS21 := h21
                  have hT : rT tx n (va_up S1 21 (nI (p9 + 1))) I := hT.keep (va_up_n (by decide)) rfl
                  refine lv_iload_n hx hb d_Mo_letters_79 rfl (lv_at hl 0 rfl) ?_
                  refine lv_if_eq (tgt := 101) hx hb d_Mo_letters_80 (by decide) (fun c30 => absurd c30 (by decide)) (fun c30 => ?_)
                  refine lv_aload_n hx hb d_Mo_letters_83 rfl (lv_at hl 2 rfl) ?_
                  refine gh_callV C V hl.1 m_Mo_peek l_Mo_185 (c_Mo_pk l E _ _ a ad _ _ _ tx n (p9 + 1) X.1 hT h21 (by omega)) rfl X.1.1 gc_Mo ⟨by first | decide | omega | (dsimp only; omega), by first | decide | omega | (dsimp only; omega)⟩ ⟨by first | decide | omega | (dsimp only; omega), by first | decide | omega | (dsimp only; omega)⟩ (Nat.le_of_ble_eq_true rfl) rfl d_Mo_letters_84 (fun r z9 H locs hp9 V1 => ?_)
                  obtain ⟨rfl, he9⟩ := hp9
                  rw [he9] at V1
                  have V := V1
                  refine W.eq (g2 := F0 m 87 ls [.int (pek (sg tx n (p9 + 1)))]) rfl ?_
                  refine lv_bipush (v := 92) hx hb d_Mo_letters_87 (by decide) ?_
                  refine lv_icmp_eq (tgt := 101) hx hb d_Mo_letters_89 (by decide) (fun c31 => absurd c31 (fun z => he3 ((pek_eq (k := 92) (by omega) (by omega) (by omega)).mp z))) (fun c31 => ?_)
                  refine lv_aload_n hx hb d_Mo_letters_92 rfl (lv_at hl 2 rfl) ?_
                  refine gh_callV C V hl.1 m_Mo_peek l_Mo_185 (c_Mo_pk l E _ _ a ad _ _ _ tx n (p9 + 1) X.1 hT h21 (by omega)) rfl X.1.1 gc_Mo ⟨by first | decide | omega | (dsimp only; omega), by first | decide | omega | (dsimp only; omega)⟩ ⟨by first | decide | omega | (dsimp only; omega), by first | decide | omega | (dsimp only; omega)⟩ (Nat.le_of_ble_eq_true rfl) rfl d_Mo_letters_93 (fun r z9 H locs hp9 V1 => ?_)
                  obtain ⟨rfl, he9⟩ := hp9
                  rw [he9] at V1
                  have V := V1
                  refine W.eq (g2 := F0 m 96 ls [.int (pek (sg tx n (p9 + 1)))]) rfl ?_
                  refine lv_bipush (v := 34) hx hb d_Mo_letters_96 (by decide) ?_
                  refine lv_icmp_ne (tgt := 114) hx hb d_Mo_letters_98 (by decide) (fun c32 => absurd ((pek_eq (k := 34) (by omega) (by omega) (by omega)).mpr (by omega)) c32) (fun c32 => ?_)
                  refine lv_aload_n hx hb d_Mo_letters_101 rfl (lv_at hl 2 rfl) ?_
                  refine gh_callV C V hl.1 m_Mo_peek l_Mo_185 (c_Mo_pk l E _ _ a ad _ _ _ tx n (p9 + 1) X.1 hT h21 (by omega)) rfl X.1.1 gc_Mo ⟨by first | decide | omega | (dsimp only; omega), by first | decide | omega | (dsimp only; omega)⟩ ⟨by first | decide | omega | (dsimp only; omega), by first | decide | omega | (dsimp only; omega)⟩ (Nat.le_of_ble_eq_true rfl) rfl d_Mo_letters_102 (fun r z9 H locs hp9 V1 => ?_)
                  obtain ⟨rfl, he9⟩ := hp9
                  rw [he9] at V1
                  have V := V1
                  refine W.eq (g2 := F0 m 105 ls [.int (pek (sg tx n (p9 + 1)))]) rfl ?_
                  refine lv_if_lt (tgt := 114) hx hb d_Mo_letters_105 (by decide) (fun c33 => absurd c33 (fun z => absurd ((pek_0 (by omega)).mp z) (by omega))) (fun c33 => ?_)
                  refine lv_iload_n hx hb d_Mo_letters_108 rfl (lv_at hl 1 rfl) ?_
                  refine lv_bipush (v := 24) hx hb d_Mo_letters_109 (by decide) ?_
                  refine lv_icmp_ne (tgt := 116) hx hb d_Mo_letters_111 (by decide) (fun c34 => absurd (by rw [h24]; rfl) c34) (fun c34 => ?_)
                  refine lv_iconst (v := 0) hx hb d_Mo_letters_114 (by decide) ?_
                  refine gh_retz hAe C V hr (by first | rfl | decide) hlocks d_Mo_letters_115 (by first | decide | omega | (dsimp only; omega)) (by first | decide | omega | (dsimp only; omega)) ?_
                  rw [← hrd]
                  rw [rd_s_o, if_neg hnp, if_neg hq, if_pos hbs, if_pos hes]
                  refine ⟨rfl, _, _, _, X, h21, ⟨fun _ => ⟨fun k a1 a2 => ?_, rfl, rfl⟩, fun z => by cases z⟩⟩
                  first | exact hS k a1 | (rw [va_up_n a1]; exact hS k a1)
            · have hln : p9 + 1 < n := sg_lt (by omega : sg tx n (p9 + 1) ≠ 0)
              have hc1 := ((hT.ch (p9 + 1)).2 hln)
              by_cases he3 : sg tx n (p9 + 1) = 92
              · refine lv_aload_n hx hb d_Mo_letters_41 rfl (lv_at hl 1 rfl) ?_
                refine gh_callV C V hl.1 m_Mo_peek l_Mo_185 (c_Mo_pk l E _ _ a ad _ _ _ tx n p9 X.1 hT h21 (by omega)) rfl X.1.1 gc_Mo ⟨by first | decide | omega | (dsimp only; omega), by first | decide | omega | (dsimp only; omega)⟩ ⟨by first | decide | omega | (dsimp only; omega), by first | decide | omega | (dsimp only; omega)⟩ (Nat.le_of_ble_eq_true rfl) rfl d_Mo_letters_42 (fun r z9 H locs hp9 V1 => ?_)
                obtain ⟨rfl, he9⟩ := hp9
                rw [he9] at V1
                have V := V1
                refine W.eq (g2 := F0 m 45 ls [.int (pek (sg tx n p9))]) rfl ?_
                refine lv_bipush (v := 34) hx hb d_Mo_letters_45 (by decide) ?_
                refine lv_icmp_eq (tgt := 148) hx hb d_Mo_letters_47 (by decide) (fun c35 => absurd c35 (fun z => (fun z => by omega) ((pek_eq (k := 34) (by omega) (by omega) (by omega)).mp z))) (fun c35 => ?_)
                refine lv_aload_n hx hb d_Mo_letters_50 rfl (lv_at hl 1 rfl) ?_
                refine gh_callV C V hl.1 m_Mo_peek l_Mo_185 (c_Mo_pk l E _ _ a ad _ _ _ tx n p9 X.1 hT h21 (by omega)) rfl X.1.1 gc_Mo ⟨by first | decide | omega | (dsimp only; omega), by first | decide | omega | (dsimp only; omega)⟩ ⟨by first | decide | omega | (dsimp only; omega), by first | decide | omega | (dsimp only; omega)⟩ (Nat.le_of_ble_eq_true rfl) rfl d_Mo_letters_51 (fun r z9 H locs hp9 V1 => ?_)
                obtain ⟨rfl, he9⟩ := hp9
                rw [he9] at V1
                have V := V1
                refine W.eq (g2 := F0 m 54 ls [.int (pek (sg tx n p9))]) rfl ?_
                refine lv_bipush (v := 92) hx hb d_Mo_letters_54 (by decide) ?_
                refine lv_icmp_ne (tgt := 63) hx hb d_Mo_letters_56 (by decide) (fun c36 => absurd ((pek_eq (k := 92) (by omega) (by omega) (by omega)).mpr (by omega)) c36) (fun c36 => ?_)
                refine lv_iconst (v := 1) hx hb d_Mo_letters_59 (by decide) ?_
                refine lv_goto (tgt := 64) hx hb d_Mo_letters_60 (by decide) ?_
                refine lv_istore_n hx hb d_Mo_letters_64 rfl hl (by decide) rfl (fun ls hl => ?_)
                have hl : lv_has ls 4 [(3, .int 1), (2, .int (nI L.length)), (0, .ref a), (1, .int 0)] := hl
                refine lv_iload_n hx hb d_Mo_letters_65 rfl (lv_at hl 0 rfl) ?_
                refine lv_if_eq (tgt := 79) hx hb d_Mo_letters_66 (by decide) (fun c37 => absurd c37 (by decide)) (fun c37 => ?_)
                refine lv_aload_n hx hb d_Mo_letters_69 rfl (lv_at hl 2 rfl) ?_
                refine lv_dup hx hb d_Mo_letters_70 rfl ?_
                refine mo_getS (v := nI p9) C V X 21 (by decide) (by decide) (by first | rfl | exact hS21) f_Mo_179 rfl d_Mo_letters_71 ?_
                refine lv_iconst (v := 1) hx hb d_Mo_letters_74 (by decide) ?_
                refine gn_iadd (a := p9) (b := 1) hx hb d_Mo_letters_75 ?_
                refine mo_putS C V X 21 (by decide) (by decide) f_Mo_179 rfl rfl rfl d_Mo_letters_76 (fun f1 H locs V1 X1 => ?_)
                clear V X
                have V := V1
                have X := X1
                clear V1 X1
                have h21 : (va_up S1 21 (nI (p9 + 1))) 21 = nI (p9 + 1) := va_up_s
                have hS21 := h21
                have hT : rT tx n (va_up S1 21 (nI (p9 + 1))) I := hT.keep (va_up_n (by decide)) rfl
                refine lv_iload_n hx hb d_Mo_letters_79 rfl (lv_at hl 0 rfl) ?_
                refine lv_if_eq (tgt := 101) hx hb d_Mo_letters_80 (by decide) (fun c38 => absurd c38 (by decide)) (fun c38 => ?_)
                refine lv_aload_n hx hb d_Mo_letters_83 rfl (lv_at hl 2 rfl) ?_
                refine gh_callV C V hl.1 m_Mo_peek l_Mo_185 (c_Mo_pk l E _ _ a ad _ _ _ tx n (p9 + 1) X.1 hT h21 (by omega)) rfl X.1.1 gc_Mo ⟨by first | decide | omega | (dsimp only; omega), by first | decide | omega | (dsimp only; omega)⟩ ⟨by first | decide | omega | (dsimp only; omega), by first | decide | omega | (dsimp only; omega)⟩ (Nat.le_of_ble_eq_true rfl) rfl d_Mo_letters_84 (fun r z9 H locs hp9 V1 => ?_)
                obtain ⟨rfl, he9⟩ := hp9
                rw [he9] at V1
                have V := V1
                refine W.eq (g2 := F0 m 87 ls [.int (pek (sg tx n (p9 + 1)))]) rfl ?_
                refine lv_bipush (v := 92) hx hb d_Mo_letters_87 (by decide) ?_
                refine lv_icmp_eq (tgt := 101) hx hb d_Mo_letters_89 (by decide) (fun c39 => ?_) (fun c39 => absurd ((pek_eq (k := 92) (by omega) (by omega) (by omega)).mpr he3) c39)
                refine lv_aload_n hx hb d_Mo_letters_101 rfl (lv_at hl 2 rfl) ?_
                refine gh_callV C V hl.1 m_Mo_peek l_Mo_185 (c_Mo_pk l E _ _ a ad _ _ _ tx n (p9 + 1) X.1 hT h21 (by omega)) rfl X.1.1 gc_Mo ⟨by first | decide | omega | (dsimp only; omega), by first | decide | omega | (dsimp only; omega)⟩ ⟨by first | decide | omega | (dsimp only; omega), by first | decide | omega | (dsimp only; omega)⟩ (Nat.le_of_ble_eq_true rfl) rfl d_Mo_letters_102 (fun r z9 H locs hp9 V1 => ?_)
                obtain ⟨rfl, he9⟩ := hp9
                rw [he9] at V1
                have V := V1
                refine W.eq (g2 := F0 m 105 ls [.int (pek (sg tx n (p9 + 1)))]) rfl ?_
                refine lv_if_lt (tgt := 114) hx hb d_Mo_letters_105 (by decide) (fun c40 => absurd c40 (fun z => absurd ((pek_0 (by omega)).mp z) (by omega))) (fun c40 => ?_)
                refine lv_iload_n hx hb d_Mo_letters_108 rfl (lv_at hl 1 rfl) ?_
                refine lv_bipush (v := 24) hx hb d_Mo_letters_109 (by decide) ?_
                refine lv_icmp_ne (tgt := 116) hx hb d_Mo_letters_111 (by decide) (fun c41 => ?_) (fun c41 => absurd c41 (fun z => absurd ((nI_eq (b := 24) (by omega) (by decide)).mp z) (by omega)))
                refine lv_aload_n hx hb d_Mo_letters_116 rfl (lv_at hl 2 rfl) ?_
                refine mo_getS (v := 0) C V X 27 (by decide) (by decide) (by first | rfl | exact hS27) f_Mo_206 rfl d_Mo_letters_117 ?_
                refine lv_if_eq (tgt := 132) hx hb d_Mo_letters_120 (by decide) (fun c42 => ?_) (fun c42 => absurd (by decide) c42)
                refine lv_iinc (k := 1) (v := (nI L.length) + 1) hx hb d_Mo_letters_132 hl rfl (by rfl) (by decide) rfl (fun ls hl => ?_)
                have hl : lv_has ls 4 [(2, .int (nI (L.length + 1))), (3, .int 1), (0, .ref a), (1, .int 0)] := by rw [nI_succ]; exact hl
                refine lv_aload_n hx hb d_Mo_letters_135 rfl (lv_at hl 2 rfl) ?_
                refine lv_dup hx hb d_Mo_letters_136 rfl ?_
                refine mo_getS (v := nI (p9 + 1)) C V X 21 (by decide) (by decide) (by first | rfl | exact hS21) f_Mo_179 rfl d_Mo_letters_137 ?_
                refine lv_iconst (v := 1) hx hb d_Mo_letters_140 (by decide) ?_
                refine gn_iadd (a := p9 + 1) (b := 1) hx hb d_Mo_letters_141 ?_
                refine mo_putS C V X 21 (by decide) (by decide) f_Mo_179 rfl rfl rfl d_Mo_letters_142 (fun f1 H locs V1 X1 => ?_)
                clear V X
                have V := V1
                have X := X1
                clear V1 X1
                have h21 : (va_up (va_up S1 21 (nI (p9 + 1))) 21 (nI ((p9 + 1) + 1))) 21 = nI ((p9 + 1) + 1) := va_up_s
                have hS21 := h21
                have hT : rT tx n (va_up (va_up S1 21 (nI (p9 + 1))) 21 (nI ((p9 + 1) + 1))) I := hT.keep (va_up_n (by decide)) rfl
                refine lv_goto (tgt := 41) hx hb d_Mo_letters_145 (by decide) ?_
                have hl : lv_has ls 4 [(2, .int (nI (L.length + 1))), (0, .ref a), (1, .int 0)] := lv_sub hl [0, 2, 3] rfl
                have hl : lv_has ls 4 [(2, .int (nI (L ++ [nI (sg tx n (p9 + 1))]).length)), (0, .ref a), (1, .int (0))] := by rw [List.length_append]; exact hl
                refine ih (p9 + 1 + 1) (L ++ [nI (sg tx n (p9 + 1))]) _ _ _ _ _ _ ls (by omega) (by omega) h21 (hLk.add (by omega) (by omega) (by omega)) ?_ rfl rfl (fun k a1 => by rw [va_up_n a1, va_up_n a1]; exact hS k a1) X V hl
                rw [← hrd]
                have hrd3 : rd_s tx n (m9 + 1) p9 L = rd_s tx n m9 (p9 + 1 + 1) (L ++ [nI (sg tx n (p9 + 1))]) := by
                  rw [rd_s_o, if_neg hnp, if_neg hq, if_pos hbs, if_neg hes]
                rw [hrd3]
              · refine lv_aload_n hx hb d_Mo_letters_41 rfl (lv_at hl 1 rfl) ?_
                refine gh_callV C V hl.1 m_Mo_peek l_Mo_185 (c_Mo_pk l E _ _ a ad _ _ _ tx n p9 X.1 hT h21 (by omega)) rfl X.1.1 gc_Mo ⟨by first | decide | omega | (dsimp only; omega), by first | decide | omega | (dsimp only; omega)⟩ ⟨by first | decide | omega | (dsimp only; omega), by first | decide | omega | (dsimp only; omega)⟩ (Nat.le_of_ble_eq_true rfl) rfl d_Mo_letters_42 (fun r z9 H locs hp9 V1 => ?_)
                obtain ⟨rfl, he9⟩ := hp9
                rw [he9] at V1
                have V := V1
                refine W.eq (g2 := F0 m 45 ls [.int (pek (sg tx n p9))]) rfl ?_
                refine lv_bipush (v := 34) hx hb d_Mo_letters_45 (by decide) ?_
                refine lv_icmp_eq (tgt := 148) hx hb d_Mo_letters_47 (by decide) (fun c43 => absurd c43 (fun z => (fun z => by omega) ((pek_eq (k := 34) (by omega) (by omega) (by omega)).mp z))) (fun c43 => ?_)
                refine lv_aload_n hx hb d_Mo_letters_50 rfl (lv_at hl 1 rfl) ?_
                refine gh_callV C V hl.1 m_Mo_peek l_Mo_185 (c_Mo_pk l E _ _ a ad _ _ _ tx n p9 X.1 hT h21 (by omega)) rfl X.1.1 gc_Mo ⟨by first | decide | omega | (dsimp only; omega), by first | decide | omega | (dsimp only; omega)⟩ ⟨by first | decide | omega | (dsimp only; omega), by first | decide | omega | (dsimp only; omega)⟩ (Nat.le_of_ble_eq_true rfl) rfl d_Mo_letters_51 (fun r z9 H locs hp9 V1 => ?_)
                obtain ⟨rfl, he9⟩ := hp9
                rw [he9] at V1
                have V := V1
                refine W.eq (g2 := F0 m 54 ls [.int (pek (sg tx n p9))]) rfl ?_
                refine lv_bipush (v := 92) hx hb d_Mo_letters_54 (by decide) ?_
                refine lv_icmp_ne (tgt := 63) hx hb d_Mo_letters_56 (by decide) (fun c44 => absurd ((pek_eq (k := 92) (by omega) (by omega) (by omega)).mpr (by omega)) c44) (fun c44 => ?_)
                refine lv_iconst (v := 1) hx hb d_Mo_letters_59 (by decide) ?_
                refine lv_goto (tgt := 64) hx hb d_Mo_letters_60 (by decide) ?_
                refine lv_istore_n hx hb d_Mo_letters_64 rfl hl (by decide) rfl (fun ls hl => ?_)
                have hl : lv_has ls 4 [(3, .int 1), (2, .int (nI L.length)), (0, .ref a), (1, .int 0)] := hl
                refine lv_iload_n hx hb d_Mo_letters_65 rfl (lv_at hl 0 rfl) ?_
                refine lv_if_eq (tgt := 79) hx hb d_Mo_letters_66 (by decide) (fun c45 => absurd c45 (by decide)) (fun c45 => ?_)
                refine lv_aload_n hx hb d_Mo_letters_69 rfl (lv_at hl 2 rfl) ?_
                refine lv_dup hx hb d_Mo_letters_70 rfl ?_
                refine mo_getS (v := nI p9) C V X 21 (by decide) (by decide) (by first | rfl | exact hS21) f_Mo_179 rfl d_Mo_letters_71 ?_
                refine lv_iconst (v := 1) hx hb d_Mo_letters_74 (by decide) ?_
                refine gn_iadd (a := p9) (b := 1) hx hb d_Mo_letters_75 ?_
                refine mo_putS C V X 21 (by decide) (by decide) f_Mo_179 rfl rfl rfl d_Mo_letters_76 (fun f1 H locs V1 X1 => ?_)
                clear V X
                have V := V1
                have X := X1
                clear V1 X1
                have h21 : (va_up S1 21 (nI (p9 + 1))) 21 = nI (p9 + 1) := va_up_s
                have hS21 := h21
                have hT : rT tx n (va_up S1 21 (nI (p9 + 1))) I := hT.keep (va_up_n (by decide)) rfl
                refine lv_iload_n hx hb d_Mo_letters_79 rfl (lv_at hl 0 rfl) ?_
                refine lv_if_eq (tgt := 101) hx hb d_Mo_letters_80 (by decide) (fun c46 => absurd c46 (by decide)) (fun c46 => ?_)
                refine lv_aload_n hx hb d_Mo_letters_83 rfl (lv_at hl 2 rfl) ?_
                refine gh_callV C V hl.1 m_Mo_peek l_Mo_185 (c_Mo_pk l E _ _ a ad _ _ _ tx n (p9 + 1) X.1 hT h21 (by omega)) rfl X.1.1 gc_Mo ⟨by first | decide | omega | (dsimp only; omega), by first | decide | omega | (dsimp only; omega)⟩ ⟨by first | decide | omega | (dsimp only; omega), by first | decide | omega | (dsimp only; omega)⟩ (Nat.le_of_ble_eq_true rfl) rfl d_Mo_letters_84 (fun r z9 H locs hp9 V1 => ?_)
                obtain ⟨rfl, he9⟩ := hp9
                rw [he9] at V1
                have V := V1
                refine W.eq (g2 := F0 m 87 ls [.int (pek (sg tx n (p9 + 1)))]) rfl ?_
                refine lv_bipush (v := 92) hx hb d_Mo_letters_87 (by decide) ?_
                refine lv_icmp_eq (tgt := 101) hx hb d_Mo_letters_89 (by decide) (fun c47 => absurd c47 (fun z => he3 ((pek_eq (k := 92) (by omega) (by omega) (by omega)).mp z))) (fun c47 => ?_)
                refine lv_aload_n hx hb d_Mo_letters_92 rfl (lv_at hl 2 rfl) ?_
                refine gh_callV C V hl.1 m_Mo_peek l_Mo_185 (c_Mo_pk l E _ _ a ad _ _ _ tx n (p9 + 1) X.1 hT h21 (by omega)) rfl X.1.1 gc_Mo ⟨by first | decide | omega | (dsimp only; omega), by first | decide | omega | (dsimp only; omega)⟩ ⟨by first | decide | omega | (dsimp only; omega), by first | decide | omega | (dsimp only; omega)⟩ (Nat.le_of_ble_eq_true rfl) rfl d_Mo_letters_93 (fun r z9 H locs hp9 V1 => ?_)
                obtain ⟨rfl, he9⟩ := hp9
                rw [he9] at V1
                have V := V1
                refine W.eq (g2 := F0 m 96 ls [.int (pek (sg tx n (p9 + 1)))]) rfl ?_
                refine lv_bipush (v := 34) hx hb d_Mo_letters_96 (by decide) ?_
                refine lv_icmp_ne (tgt := 114) hx hb d_Mo_letters_98 (by decide) (fun c48 => absurd ((pek_eq (k := 34) (by omega) (by omega) (by omega)).mpr (by omega)) c48) (fun c48 => ?_)
                refine lv_aload_n hx hb d_Mo_letters_101 rfl (lv_at hl 2 rfl) ?_
                refine gh_callV C V hl.1 m_Mo_peek l_Mo_185 (c_Mo_pk l E _ _ a ad _ _ _ tx n (p9 + 1) X.1 hT h21 (by omega)) rfl X.1.1 gc_Mo ⟨by first | decide | omega | (dsimp only; omega), by first | decide | omega | (dsimp only; omega)⟩ ⟨by first | decide | omega | (dsimp only; omega), by first | decide | omega | (dsimp only; omega)⟩ (Nat.le_of_ble_eq_true rfl) rfl d_Mo_letters_102 (fun r z9 H locs hp9 V1 => ?_)
                obtain ⟨rfl, he9⟩ := hp9
                rw [he9] at V1
                have V := V1
                refine W.eq (g2 := F0 m 105 ls [.int (pek (sg tx n (p9 + 1)))]) rfl ?_
                refine lv_if_lt (tgt := 114) hx hb d_Mo_letters_105 (by decide) (fun c49 => absurd c49 (fun z => absurd ((pek_0 (by omega)).mp z) (by omega))) (fun c49 => ?_)
                refine lv_iload_n hx hb d_Mo_letters_108 rfl (lv_at hl 1 rfl) ?_
                refine lv_bipush (v := 24) hx hb d_Mo_letters_109 (by decide) ?_
                refine lv_icmp_ne (tgt := 116) hx hb d_Mo_letters_111 (by decide) (fun c50 => ?_) (fun c50 => absurd c50 (fun z => absurd ((nI_eq (b := 24) (by omega) (by decide)).mp z) (by omega)))
                refine lv_aload_n hx hb d_Mo_letters_116 rfl (lv_at hl 2 rfl) ?_
                refine mo_getS (v := 0) C V X 27 (by decide) (by decide) (by first | rfl | exact hS27) f_Mo_206 rfl d_Mo_letters_117 ?_
                refine lv_if_eq (tgt := 132) hx hb d_Mo_letters_120 (by decide) (fun c51 => ?_) (fun c51 => absurd (by decide) c51)
                refine lv_iinc (k := 1) (v := (nI L.length) + 1) hx hb d_Mo_letters_132 hl rfl (by rfl) (by decide) rfl (fun ls hl => ?_)
                have hl : lv_has ls 4 [(2, .int (nI (L.length + 1))), (3, .int 1), (0, .ref a), (1, .int 0)] := by rw [nI_succ]; exact hl
                refine lv_aload_n hx hb d_Mo_letters_135 rfl (lv_at hl 2 rfl) ?_
                refine lv_dup hx hb d_Mo_letters_136 rfl ?_
                refine mo_getS (v := nI (p9 + 1)) C V X 21 (by decide) (by decide) (by first | rfl | exact hS21) f_Mo_179 rfl d_Mo_letters_137 ?_
                refine lv_iconst (v := 1) hx hb d_Mo_letters_140 (by decide) ?_
                refine gn_iadd (a := p9 + 1) (b := 1) hx hb d_Mo_letters_141 ?_
                refine mo_putS C V X 21 (by decide) (by decide) f_Mo_179 rfl rfl rfl d_Mo_letters_142 (fun f1 H locs V1 X1 => ?_)
                clear V X
                have V := V1
                have X := X1
                clear V1 X1
                have h21 : (va_up (va_up S1 21 (nI (p9 + 1))) 21 (nI ((p9 + 1) + 1))) 21 = nI ((p9 + 1) + 1) := va_up_s
                have hS21 := h21
                have hT : rT tx n (va_up (va_up S1 21 (nI (p9 + 1))) 21 (nI ((p9 + 1) + 1))) I := hT.keep (va_up_n (by decide)) rfl
                refine lv_goto (tgt := 41) hx hb d_Mo_letters_145 (by decide) ?_
                have hl : lv_has ls 4 [(2, .int (nI (L.length + 1))), (0, .ref a), (1, .int 0)] := lv_sub hl [0, 2, 3] rfl
                have hl : lv_has ls 4 [(2, .int (nI (L ++ [nI (sg tx n (p9 + 1))]).length)), (0, .ref a), (1, .int (0))] := by rw [List.length_append]; exact hl
                refine ih (p9 + 1 + 1) (L ++ [nI (sg tx n (p9 + 1))]) _ _ _ _ _ _ ls (by omega) (by omega) h21 (hLk.add (by omega) (by omega) (by omega)) ?_ rfl rfl (fun k a1 => by rw [va_up_n a1, va_up_n a1]; exact hS k a1) X V hl
                rw [← hrd]
                have hrd3 : rd_s tx n (m9 + 1) p9 L = rd_s tx n m9 (p9 + 1 + 1) (L ++ [nI (sg tx n (p9 + 1))]) := by
                  rw [rd_s_o, if_neg hnp, if_neg hq, if_pos hbs, if_neg hes]
                rw [hrd3]
          · by_cases h24 : 24 ≤ L.length
            · refine lv_aload_n hx hb d_Mo_letters_41 rfl (lv_at hl 1 rfl) ?_
              refine gh_callV C V hl.1 m_Mo_peek l_Mo_185 (c_Mo_pk l E _ _ a ad _ _ _ tx n p9 X.1 hT h21 (by omega)) rfl X.1.1 gc_Mo ⟨by first | decide | omega | (dsimp only; omega), by first | decide | omega | (dsimp only; omega)⟩ ⟨by first | decide | omega | (dsimp only; omega), by first | decide | omega | (dsimp only; omega)⟩ (Nat.le_of_ble_eq_true rfl) rfl d_Mo_letters_42 (fun r z9 H locs hp9 V1 => ?_)
              obtain ⟨rfl, he9⟩ := hp9
              rw [he9] at V1
              have V := V1
              refine W.eq (g2 := F0 m 45 ls [.int (pek (sg tx n p9))]) rfl ?_
              refine lv_bipush (v := 34) hx hb d_Mo_letters_45 (by decide) ?_
              refine lv_icmp_eq (tgt := 148) hx hb d_Mo_letters_47 (by decide) (fun c52 => absurd c52 (fun z => (fun z => by omega) ((pek_eq (k := 34) (by omega) (by omega) (by omega)).mp z))) (fun c52 => ?_)
              refine lv_aload_n hx hb d_Mo_letters_50 rfl (lv_at hl 1 rfl) ?_
              refine gh_callV C V hl.1 m_Mo_peek l_Mo_185 (c_Mo_pk l E _ _ a ad _ _ _ tx n p9 X.1 hT h21 (by omega)) rfl X.1.1 gc_Mo ⟨by first | decide | omega | (dsimp only; omega), by first | decide | omega | (dsimp only; omega)⟩ ⟨by first | decide | omega | (dsimp only; omega), by first | decide | omega | (dsimp only; omega)⟩ (Nat.le_of_ble_eq_true rfl) rfl d_Mo_letters_51 (fun r z9 H locs hp9 V1 => ?_)
              obtain ⟨rfl, he9⟩ := hp9
              rw [he9] at V1
              have V := V1
              refine W.eq (g2 := F0 m 54 ls [.int (pek (sg tx n p9))]) rfl ?_
              refine lv_bipush (v := 92) hx hb d_Mo_letters_54 (by decide) ?_
              refine lv_icmp_ne (tgt := 63) hx hb d_Mo_letters_56 (by decide) (fun c53 => ?_) (fun c53 => absurd c53 (fun z => (fun z => by omega) ((pek_eq (k := 92) (by omega) (by omega) (by omega)).mp z)))
              refine lv_iconst (v := 0) hx hb d_Mo_letters_63 (by decide) ?_
              refine lv_istore_n hx hb d_Mo_letters_64 rfl hl (by decide) rfl (fun ls hl => ?_)
              have hl : lv_has ls 4 [(3, .int 0), (2, .int (nI L.length)), (0, .ref a), (1, .int 0)] := hl
              refine lv_iload_n hx hb d_Mo_letters_65 rfl (lv_at hl 0 rfl) ?_
              refine lv_if_eq (tgt := 79) hx hb d_Mo_letters_66 (by decide) (fun c54 => ?_) (fun c54 => absurd (by decide) c54)
              refine lv_iload_n hx hb d_Mo_letters_79 rfl (lv_at hl 0 rfl) ?_
              refine lv_if_eq (tgt := 101) hx hb d_Mo_letters_80 (by decide) (fun c55 => ?_) (fun c55 => absurd (by decide) c55)
              refine lv_aload_n hx hb d_Mo_letters_101 rfl (lv_at hl 2 rfl) ?_
              refine gh_callV C V hl.1 m_Mo_peek l_Mo_185 (c_Mo_pk l E _ _ a ad _ _ _ tx n p9 X.1 hT h21 (by omega)) rfl X.1.1 gc_Mo ⟨by first | decide | omega | (dsimp only; omega), by first | decide | omega | (dsimp only; omega)⟩ ⟨by first | decide | omega | (dsimp only; omega), by first | decide | omega | (dsimp only; omega)⟩ (Nat.le_of_ble_eq_true rfl) rfl d_Mo_letters_102 (fun r z9 H locs hp9 V1 => ?_)
              obtain ⟨rfl, he9⟩ := hp9
              rw [he9] at V1
              have V := V1
              refine W.eq (g2 := F0 m 105 ls [.int (pek (sg tx n p9))]) rfl ?_
              refine lv_if_lt (tgt := 114) hx hb d_Mo_letters_105 (by decide) (fun c56 => absurd c56 (fun z => absurd ((pek_0 (by omega)).mp z) (by omega))) (fun c56 => ?_)
              refine lv_iload_n hx hb d_Mo_letters_108 rfl (lv_at hl 1 rfl) ?_
              refine lv_bipush (v := 24) hx hb d_Mo_letters_109 (by decide) ?_
              refine lv_icmp_ne (tgt := 116) hx hb d_Mo_letters_111 (by decide) (fun c57 => absurd (by rw [show L.length = 24 by omega]; rfl) c57) (fun c57 => ?_)
              refine lv_iconst (v := 0) hx hb d_Mo_letters_114 (by decide) ?_
              refine gh_retz hAe C V hr (by first | rfl | decide) hlocks d_Mo_letters_115 (by first | decide | omega | (dsimp only; omega)) (by first | decide | omega | (dsimp only; omega)) ?_
              rw [← hrd]
              rw [rd_s_o, if_neg hnp, if_neg hq, if_neg hbs, if_pos h24]
              refine ⟨rfl, _, _, _, X, h21, ⟨fun _ => ⟨fun k a1 a2 => ?_, rfl, rfl⟩, fun z => by cases z⟩⟩
              first | exact hS k a1 | (rw [va_up_n a1]; exact hS k a1)
            · refine lv_aload_n hx hb d_Mo_letters_41 rfl (lv_at hl 1 rfl) ?_
              refine gh_callV C V hl.1 m_Mo_peek l_Mo_185 (c_Mo_pk l E _ _ a ad _ _ _ tx n p9 X.1 hT h21 (by omega)) rfl X.1.1 gc_Mo ⟨by first | decide | omega | (dsimp only; omega), by first | decide | omega | (dsimp only; omega)⟩ ⟨by first | decide | omega | (dsimp only; omega), by first | decide | omega | (dsimp only; omega)⟩ (Nat.le_of_ble_eq_true rfl) rfl d_Mo_letters_42 (fun r z9 H locs hp9 V1 => ?_)
              obtain ⟨rfl, he9⟩ := hp9
              rw [he9] at V1
              have V := V1
              refine W.eq (g2 := F0 m 45 ls [.int (pek (sg tx n p9))]) rfl ?_
              refine lv_bipush (v := 34) hx hb d_Mo_letters_45 (by decide) ?_
              refine lv_icmp_eq (tgt := 148) hx hb d_Mo_letters_47 (by decide) (fun c58 => absurd c58 (fun z => (fun z => by omega) ((pek_eq (k := 34) (by omega) (by omega) (by omega)).mp z))) (fun c58 => ?_)
              refine lv_aload_n hx hb d_Mo_letters_50 rfl (lv_at hl 1 rfl) ?_
              refine gh_callV C V hl.1 m_Mo_peek l_Mo_185 (c_Mo_pk l E _ _ a ad _ _ _ tx n p9 X.1 hT h21 (by omega)) rfl X.1.1 gc_Mo ⟨by first | decide | omega | (dsimp only; omega), by first | decide | omega | (dsimp only; omega)⟩ ⟨by first | decide | omega | (dsimp only; omega), by first | decide | omega | (dsimp only; omega)⟩ (Nat.le_of_ble_eq_true rfl) rfl d_Mo_letters_51 (fun r z9 H locs hp9 V1 => ?_)
              obtain ⟨rfl, he9⟩ := hp9
              rw [he9] at V1
              have V := V1
              refine W.eq (g2 := F0 m 54 ls [.int (pek (sg tx n p9))]) rfl ?_
              refine lv_bipush (v := 92) hx hb d_Mo_letters_54 (by decide) ?_
              refine lv_icmp_ne (tgt := 63) hx hb d_Mo_letters_56 (by decide) (fun c59 => ?_) (fun c59 => absurd c59 (fun z => (fun z => by omega) ((pek_eq (k := 92) (by omega) (by omega) (by omega)).mp z)))
              refine lv_iconst (v := 0) hx hb d_Mo_letters_63 (by decide) ?_
              refine lv_istore_n hx hb d_Mo_letters_64 rfl hl (by decide) rfl (fun ls hl => ?_)
              have hl : lv_has ls 4 [(3, .int 0), (2, .int (nI L.length)), (0, .ref a), (1, .int 0)] := hl
              refine lv_iload_n hx hb d_Mo_letters_65 rfl (lv_at hl 0 rfl) ?_
              refine lv_if_eq (tgt := 79) hx hb d_Mo_letters_66 (by decide) (fun c60 => ?_) (fun c60 => absurd (by decide) c60)
              refine lv_iload_n hx hb d_Mo_letters_79 rfl (lv_at hl 0 rfl) ?_
              refine lv_if_eq (tgt := 101) hx hb d_Mo_letters_80 (by decide) (fun c61 => ?_) (fun c61 => absurd (by decide) c61)
              refine lv_aload_n hx hb d_Mo_letters_101 rfl (lv_at hl 2 rfl) ?_
              refine gh_callV C V hl.1 m_Mo_peek l_Mo_185 (c_Mo_pk l E _ _ a ad _ _ _ tx n p9 X.1 hT h21 (by omega)) rfl X.1.1 gc_Mo ⟨by first | decide | omega | (dsimp only; omega), by first | decide | omega | (dsimp only; omega)⟩ ⟨by first | decide | omega | (dsimp only; omega), by first | decide | omega | (dsimp only; omega)⟩ (Nat.le_of_ble_eq_true rfl) rfl d_Mo_letters_102 (fun r z9 H locs hp9 V1 => ?_)
              obtain ⟨rfl, he9⟩ := hp9
              rw [he9] at V1
              have V := V1
              refine W.eq (g2 := F0 m 105 ls [.int (pek (sg tx n p9))]) rfl ?_
              refine lv_if_lt (tgt := 114) hx hb d_Mo_letters_105 (by decide) (fun c62 => absurd c62 (fun z => absurd ((pek_0 (by omega)).mp z) (by omega))) (fun c62 => ?_)
              refine lv_iload_n hx hb d_Mo_letters_108 rfl (lv_at hl 1 rfl) ?_
              refine lv_bipush (v := 24) hx hb d_Mo_letters_109 (by decide) ?_
              refine lv_icmp_ne (tgt := 116) hx hb d_Mo_letters_111 (by decide) (fun c63 => ?_) (fun c63 => absurd c63 (fun z => absurd ((nI_eq (b := 24) (by omega) (by decide)).mp z) (by omega)))
              refine lv_aload_n hx hb d_Mo_letters_116 rfl (lv_at hl 2 rfl) ?_
              refine mo_getS (v := 0) C V X 27 (by decide) (by decide) (by first | rfl | exact hS27) f_Mo_206 rfl d_Mo_letters_117 ?_
              refine lv_if_eq (tgt := 132) hx hb d_Mo_letters_120 (by decide) (fun c64 => ?_) (fun c64 => absurd (by decide) c64)
              refine lv_iinc (k := 1) (v := (nI L.length) + 1) hx hb d_Mo_letters_132 hl rfl (by rfl) (by decide) rfl (fun ls hl => ?_)
              have hl : lv_has ls 4 [(2, .int (nI (L.length + 1))), (3, .int 0), (0, .ref a), (1, .int 0)] := by rw [nI_succ]; exact hl
              refine lv_aload_n hx hb d_Mo_letters_135 rfl (lv_at hl 2 rfl) ?_
              refine lv_dup hx hb d_Mo_letters_136 rfl ?_
              refine mo_getS (v := nI p9) C V X 21 (by decide) (by decide) (by first | rfl | exact hS21) f_Mo_179 rfl d_Mo_letters_137 ?_
              refine lv_iconst (v := 1) hx hb d_Mo_letters_140 (by decide) ?_
              refine gn_iadd (a := p9) (b := 1) hx hb d_Mo_letters_141 ?_
              refine mo_putS C V X 21 (by decide) (by decide) f_Mo_179 rfl rfl rfl d_Mo_letters_142 (fun f1 H locs V1 X1 => ?_)
              clear V X
              have V := V1
              have X := X1
              clear V1 X1
              have h21 : (va_up S1 21 (nI (p9 + 1))) 21 = nI (p9 + 1) := va_up_s
              have hS21 := h21
              have hT : rT tx n (va_up S1 21 (nI (p9 + 1))) I := hT.keep (va_up_n (by decide)) rfl
              refine lv_goto (tgt := 41) hx hb d_Mo_letters_145 (by decide) ?_
              have hl : lv_has ls 4 [(2, .int (nI (L.length + 1))), (0, .ref a), (1, .int 0)] := lv_sub hl [0, 2, 3] rfl
              have hl : lv_has ls 4 [(2, .int (nI (L ++ [nI (sg tx n (p9))]).length)), (0, .ref a), (1, .int (0))] := by rw [List.length_append]; exact hl
              refine ih (p9 + 1) (L ++ [nI (sg tx n (p9))]) _ _ _ _ _ _ ls (by omega) (by omega) h21 (hLk.add (by omega) (by omega) (by omega)) ?_ rfl rfl (fun k a1 => by rw [va_up_n a1]; exact hS k a1) X V hl
              rw [← hrd]
              have hrd3 : rd_s tx n (m9 + 1) p9 L = rd_s tx n m9 (p9 + 1) (L ++ [nI (sg tx n (p9))]) := by
                rw [rd_s_o, if_neg hnp, if_neg hq, if_neg hbs, if_neg h24, htx]
              rw [hrd3]
  exact loop n (pl + 1) [] _ _ _ _ _ _ ls (by omega) (by omega) va_up_s ⟨Nat.zero_le _, fun j hj => absurd hj (Nat.not_lt_zero j)⟩ rfl rfl rfl (fun k a1 => va_up_n a1) X V hl
set_option maxHeartbeats 4000000 in
set_option maxRecDepth 100000 in
theorem c_Mo_lettersT (l : Launch) (E : gh_E) (sz : Nat) (f : gh_F) (a : Nat) (ad : Nat → Nat) (S : Nat → Int32) (I : Nat → Nat → Int32) (J : Nat → Nat → Int64) (tx : Nat → Nat) (n pl : Nat) (nv np : Nat) (hX : mo_R E f a ad S I J) (hT : rT tx n S I) (h21 : S 21 = nI pl) (hp : pl ≤ n) (hqq : sg tx n pl = 34) (h27 : S 27 = 1) (h11 : S 11 = nI nv) (hnv : nv < 760) (h29 : 29 ≤ nv) : gh_M l y_Mo_letters b_Mo_letters 4 (some .boolean) E sz [.ref a] f { frames := 6, cells := 0, slots := 0, locals := 140 } (fun r g => r = some (.int (gh_bi (rd_s tx n n (pl + 1) []).2.isSome)) ∧ ∃ S2 I2 J2, mo_X E f g a ad S2 I2 J2 ∧ S2 21 = nI (rd_s tx n n (pl + 1) []).1 ∧ rO true S I J nv np ((rd_s tx n n (pl + 1) []).2.map vt_t) S2 I2 J2) := by
  have hsg := fun q => (hT.ch q).1
  have hS21 := h21
  have hS27 := h27
  have hT0 := hT
  have hpn := sg_lt (by omega : sg tx n pl ≠ 0)
  have h120 := hT.2.1
  refine gh_open (by decide) (Nat.le_of_ble_eq_true rfl) ?_
  intro p e s m args below meth c A ls hAe C V hr hlocks hname hl
  have hx := C.1
  have hb := C.2.1
  have hl : lv_has ls 4 [(0, .ref a)] := hl
  have X : mo_X E f f a ad S I J := ⟨hX, gh_fr.rf⟩
  refine lv_aload_n hx hb d_Mo_letters_0 rfl (lv_at hl 0 rfl) ?_
  refine gh_callV C V hl.1 m_Mo_peek l_Mo_185 (c_Mo_pk l E _ _ a ad _ _ _ tx n pl X.1 hT h21 (by omega)) rfl X.1.1 gc_Mo ⟨by first | decide | omega | (dsimp only; omega), by first | decide | omega | (dsimp only; omega)⟩ ⟨by first | decide | omega | (dsimp only; omega), by first | decide | omega | (dsimp only; omega)⟩ (Nat.le_of_ble_eq_true rfl) rfl d_Mo_letters_1 (fun r z9 H locs hp9 V1 => ?_)
  obtain ⟨rfl, he9⟩ := hp9
  rw [he9] at V1
  have V := V1
  refine W.eq (g2 := F0 m 4 ls [.int (pek (sg tx n pl))]) rfl ?_
  refine lv_bipush (v := 34) hx hb d_Mo_letters_4 (by decide) ?_
  refine lv_icmp_eq (tgt := 11) hx hb d_Mo_letters_6 (by decide) (fun c1 => ?_) (fun c1 => absurd ((pek_eq (k := 34) (by omega) (by omega) (by omega)).mpr hqq) c1)
  refine lv_aload_n hx hb d_Mo_letters_11 rfl (lv_at hl 0 rfl) ?_
  refine lv_dup hx hb d_Mo_letters_12 rfl ?_
  refine mo_getS (v := nI pl) C V X 21 (by decide) (by decide) (by first | rfl | exact hS21) f_Mo_179 rfl d_Mo_letters_13 ?_
  refine lv_iconst (v := 1) hx hb d_Mo_letters_16 (by decide) ?_
  refine gn_iadd (a := pl) (b := 1) hx hb d_Mo_letters_17 ?_
  refine mo_putS C V X 21 (by decide) (by decide) f_Mo_179 rfl rfl rfl d_Mo_letters_18 (fun f1 H locs V1 X1 => ?_)
  clear V X
  have V := V1
  have X := X1
  clear V1 X1
  have h21 : (va_up S 21 (nI (pl + 1))) 21 = nI (pl + 1) := va_up_s
  have hS21 := h21
  have hT : rT tx n (va_up S 21 (nI (pl + 1))) I := hT.keep (va_up_n (by decide)) rfl
  refine lv_aload_n hx hb d_Mo_letters_21 rfl (lv_at hl 0 rfl) ?_
  refine mo_getS (v := 1) C V X 27 (by decide) (by decide) (by first | rfl | exact hS27) f_Mo_206 rfl d_Mo_letters_22 ?_
  refine lv_if_eq (tgt := 37) hx hb d_Mo_letters_25 (by decide) (fun c2 => absurd c2 (by decide)) (fun c2 => ?_)
  refine lv_aload_n hx hb d_Mo_letters_28 rfl (lv_at hl 0 rfl) ?_
  refine lv_iconst (v := 4) hx hb d_Mo_letters_29 (by decide) ?_
  refine lv_lconst (v := 0) hx hb d_Mo_letters_30 (by decide) ?_
  have h11b : (va_up S 21 (nI (pl + 1))) 11 = nI nv := by rw [va_up_n (by decide)]; exact h11
  refine gh_callV C V hl.1 m_Mo_make l_Mo_159 (c_Mo_mk l E _ _ a ad _ _ _ 4 0 nv X.1 h11b hnv) rfl X.1.1 gc_Mo ⟨by first | decide | omega | (dsimp only; omega), by first | decide | omega | (dsimp only; omega)⟩ ⟨by first | decide | omega | (dsimp only; omega), by first | decide | omega | (dsimp only; omega)⟩ (Nat.le_of_ble_eq_true rfl) rfl d_Mo_letters_31 (fun r z9 H locs hp9 V1 => ?_)
  obtain ⟨rfl, S3, I3, J3, X2, hmk⟩ := hp9
  have X := X.then X2
  have V := V1
  refine W.eq (g2 := F0 m 34 ls [.int (nI nv)]) rfl ?_
  refine lv_goto (tgt := 38) hx hb d_Mo_letters_34 (by decide) ?_
  refine lv_istore_n hx hb d_Mo_letters_38 rfl hl (by decide) rfl (fun ls hl => ?_)
  have hl : lv_has ls 4 [(1, .int (nI nv)), (0, .ref a)] := hl
  refine lv_iconst (v := 0) hx hb d_Mo_letters_39 (by decide) ?_
  refine lv_istore_n hx hb d_Mo_letters_40 rfl hl (by decide) rfl (fun ls hl => ?_)
  have hl : lv_has ls 4 [(2, .int 0), (1, .int (nI nv)), (0, .ref a)] := hl
  have hl : lv_has ls 4 [(2, .int 0), (0, .ref a), (1, .int (nI nv))] := lv_sub hl [0, 2, 1] rfl
  have hl : lv_has ls 4 [(2, .int (nI ([] : List Int32).length)), (0, .ref a), (1, .int (nI nv))] := hl
  have loop : ∀ (m9 p9 : Nat) (L : List Int32) (S1 : Nat → Int32) (I1 : mo_I) (J1 : mo_J) (f1 : gh_F) (H : Heap) (locs : List Loc) (ls : Array Slot), n ≤ p9 + m9 → p9 ≤ n → S1 21 = nI p9 → lt_ok L → rd_s tx n m9 p9 L = rd_s tx n n (pl + 1) [] → sb I3 J3 nv L I1 J1 → (∀ k, k ≠ 11 → k ≠ 21 → S1 k = S k) → S1 11 = nI (nv + 1) → mo_X E f f1 a ad S1 I1 J1 → gh_V E A f1 s H locs → lv_has ls 4 [(2, .int (nI L.length)), (0, .ref a), (1, .int (nI nv))] → W p l e { frames := 6, cells := 0, slots := 0, locals := 140 } s m args below meth c H locs 0 0 (MQ below (gh_Q E f (fun r g => r = some (.int (gh_bi (rd_s tx n n (pl + 1) []).2.isSome)) ∧ ∃ S2 I2 J2, mo_X E f g a ad S2 I2 J2 ∧ S2 21 = nI (rd_s tx n n (pl + 1) []).1 ∧ rO true S I J nv np ((rd_s tx n n (pl + 1) []).2.map vt_t) S2 I2 J2)) args s 0 0 A) (F0 m 41 ls []) := by
    intro m9
    induction m9 with
    | zero =>
      intro p9 L S1 I1 J1 f1 H locs ls hm hp9 h21 hLk hrd hsb hS h11c X V hl
      have hT : rT tx n S1 I1 := hT0.keep (hS 20 (by decide) (by decide)) ((funext (fun j => hsb.1 19 j (Or.inl (by decide)))).trans (funext (fun j => hmk.2.1 19 j (Or.inl (by decide)))))
      have hS21 := h21
      have hS27 : S1 27 = 1 := (hS 27 (by decide) (by decide)).trans h27
      have hL24 := hLk.1
      have hs0 := hsg p9
      have hz : sg tx n p9 = 0 := by unfold sg; rw [if_neg (by omega)]
      refine lv_aload_n hx hb d_Mo_letters_41 rfl (lv_at hl 1 rfl) ?_
      refine gh_callV C V hl.1 m_Mo_peek l_Mo_185 (c_Mo_pk l E _ _ a ad _ _ _ tx n p9 X.1 hT h21 (by omega)) rfl X.1.1 gc_Mo ⟨by first | decide | omega | (dsimp only; omega), by first | decide | omega | (dsimp only; omega)⟩ ⟨by first | decide | omega | (dsimp only; omega), by first | decide | omega | (dsimp only; omega)⟩ (Nat.le_of_ble_eq_true rfl) rfl d_Mo_letters_42 (fun r z9 H locs hp9 V1 => ?_)
      obtain ⟨rfl, he9⟩ := hp9
      rw [he9] at V1
      have V := V1
      refine W.eq (g2 := F0 m 45 ls [.int (pek (sg tx n p9))]) rfl ?_
      refine lv_bipush (v := 34) hx hb d_Mo_letters_45 (by decide) ?_
      refine lv_icmp_eq (tgt := 148) hx hb d_Mo_letters_47 (by decide) (fun c3 => absurd c3 (fun z => (fun z => by omega) ((pek_eq (k := 34) (by omega) (by omega) (by omega)).mp z))) (fun c3 => ?_)
      refine lv_aload_n hx hb d_Mo_letters_50 rfl (lv_at hl 1 rfl) ?_
      refine gh_callV C V hl.1 m_Mo_peek l_Mo_185 (c_Mo_pk l E _ _ a ad _ _ _ tx n p9 X.1 hT h21 (by omega)) rfl X.1.1 gc_Mo ⟨by first | decide | omega | (dsimp only; omega), by first | decide | omega | (dsimp only; omega)⟩ ⟨by first | decide | omega | (dsimp only; omega), by first | decide | omega | (dsimp only; omega)⟩ (Nat.le_of_ble_eq_true rfl) rfl d_Mo_letters_51 (fun r z9 H locs hp9 V1 => ?_)
      obtain ⟨rfl, he9⟩ := hp9
      rw [he9] at V1
      have V := V1
      refine W.eq (g2 := F0 m 54 ls [.int (pek (sg tx n p9))]) rfl ?_
      refine lv_bipush (v := 92) hx hb d_Mo_letters_54 (by decide) ?_
      refine lv_icmp_ne (tgt := 63) hx hb d_Mo_letters_56 (by decide) (fun c4 => ?_) (fun c4 => absurd c4 (fun z => (fun z => by omega) ((pek_eq (k := 92) (by omega) (by omega) (by omega)).mp z)))
      refine lv_iconst (v := 0) hx hb d_Mo_letters_63 (by decide) ?_
      refine lv_istore_n hx hb d_Mo_letters_64 rfl hl (by decide) rfl (fun ls hl => ?_)
      have hl : lv_has ls 4 [(3, .int 0), (2, .int (nI L.length)), (0, .ref a), (1, .int (nI nv))] := hl
      refine lv_iload_n hx hb d_Mo_letters_65 rfl (lv_at hl 0 rfl) ?_
      refine lv_if_eq (tgt := 79) hx hb d_Mo_letters_66 (by decide) (fun c5 => ?_) (fun c5 => absurd (by decide) c5)
      refine lv_iload_n hx hb d_Mo_letters_79 rfl (lv_at hl 0 rfl) ?_
      refine lv_if_eq (tgt := 101) hx hb d_Mo_letters_80 (by decide) (fun c6 => ?_) (fun c6 => absurd (by decide) c6)
      refine lv_aload_n hx hb d_Mo_letters_101 rfl (lv_at hl 2 rfl) ?_
      refine gh_callV C V hl.1 m_Mo_peek l_Mo_185 (c_Mo_pk l E _ _ a ad _ _ _ tx n p9 X.1 hT h21 (by omega)) rfl X.1.1 gc_Mo ⟨by first | decide | omega | (dsimp only; omega), by first | decide | omega | (dsimp only; omega)⟩ ⟨by first | decide | omega | (dsimp only; omega), by first | decide | omega | (dsimp only; omega)⟩ (Nat.le_of_ble_eq_true rfl) rfl d_Mo_letters_102 (fun r z9 H locs hp9 V1 => ?_)
      obtain ⟨rfl, he9⟩ := hp9
      rw [he9] at V1
      have V := V1
      refine W.eq (g2 := F0 m 105 ls [.int (pek (sg tx n p9))]) rfl ?_
      refine lv_if_lt (tgt := 114) hx hb d_Mo_letters_105 (by decide) (fun c7 => ?_) (fun c7 => absurd ((pek_0 (by omega)).mpr hz) c7)
      refine lv_iconst (v := 0) hx hb d_Mo_letters_114 (by decide) ?_
      refine gh_retz hAe C V hr (by first | rfl | decide) hlocks d_Mo_letters_115 (by first | decide | omega | (dsimp only; omega)) (by first | decide | omega | (dsimp only; omega)) ?_
      rw [← hrd]
      have hrd2 : rd_s tx n 0 p9 L = (p9, none) := rfl
      rw [hrd2]
      refine ⟨rfl, _, _, _, X, h21, ⟨fun z => (by cases z), fun _ X hz => (by cases hz)⟩⟩
    | succ m9 ih =>
      intro p9 L S1 I1 J1 f1 H locs ls hm hp9 h21 hLk hrd hsb hS h11c X V hl
      have hT : rT tx n S1 I1 := hT0.keep (hS 20 (by decide) (by decide)) ((funext (fun j => hsb.1 19 j (Or.inl (by decide)))).trans (funext (fun j => hmk.2.1 19 j (Or.inl (by decide)))))
      have hS21 := h21
      have hS27 : S1 27 = 1 := (hS 27 (by decide) (by decide)).trans h27
      have hL24 := hLk.1
      have hs0 := hsg p9
      by_cases hnp : n ≤ p9
      · refine lv_aload_n hx hb d_Mo_letters_41 rfl (lv_at hl 1 rfl) ?_
        refine gh_callV C V hl.1 m_Mo_peek l_Mo_185 (c_Mo_pk l E _ _ a ad _ _ _ tx n p9 X.1 hT h21 (by omega)) rfl X.1.1 gc_Mo ⟨by first | decide | omega | (dsimp only; omega), by first | decide | omega | (dsimp only; omega)⟩ ⟨by first | decide | omega | (dsimp only; omega), by first | decide | omega | (dsimp only; omega)⟩ (Nat.le_of_ble_eq_true rfl) rfl d_Mo_letters_42 (fun r z9 H locs hp9 V1 => ?_)
        obtain ⟨rfl, he9⟩ := hp9
        rw [he9] at V1
        have V := V1
        refine W.eq (g2 := F0 m 45 ls [.int (pek (sg tx n p9))]) rfl ?_
        refine lv_bipush (v := 34) hx hb d_Mo_letters_45 (by decide) ?_
        refine lv_icmp_eq (tgt := 148) hx hb d_Mo_letters_47 (by decide) (fun c8 => absurd c8 (fun z => (fun z => by have := sg_lt (by omega : sg tx n p9 ≠ 0); omega) ((pek_eq (k := 34) (by omega) (by omega) (by omega)).mp z))) (fun c8 => ?_)
        refine lv_aload_n hx hb d_Mo_letters_50 rfl (lv_at hl 1 rfl) ?_
        refine gh_callV C V hl.1 m_Mo_peek l_Mo_185 (c_Mo_pk l E _ _ a ad _ _ _ tx n p9 X.1 hT h21 (by omega)) rfl X.1.1 gc_Mo ⟨by first | decide | omega | (dsimp only; omega), by first | decide | omega | (dsimp only; omega)⟩ ⟨by first | decide | omega | (dsimp only; omega), by first | decide | omega | (dsimp only; omega)⟩ (Nat.le_of_ble_eq_true rfl) rfl d_Mo_letters_51 (fun r z9 H locs hp9 V1 => ?_)
        obtain ⟨rfl, he9⟩ := hp9
        rw [he9] at V1
        have V := V1
        refine W.eq (g2 := F0 m 54 ls [.int (pek (sg tx n p9))]) rfl ?_
        refine lv_bipush (v := 92) hx hb d_Mo_letters_54 (by decide) ?_
        refine lv_icmp_ne (tgt := 63) hx hb d_Mo_letters_56 (by decide) (fun c9 => ?_) (fun c9 => absurd c9 (fun z => (fun z => by have := sg_lt (by omega : sg tx n p9 ≠ 0); omega) ((pek_eq (k := 92) (by omega) (by omega) (by omega)).mp z)))
        refine lv_iconst (v := 0) hx hb d_Mo_letters_63 (by decide) ?_
        refine lv_istore_n hx hb d_Mo_letters_64 rfl hl (by decide) rfl (fun ls hl => ?_)
        have hl : lv_has ls 4 [(3, .int 0), (2, .int (nI L.length)), (0, .ref a), (1, .int (nI nv))] := hl
        refine lv_iload_n hx hb d_Mo_letters_65 rfl (lv_at hl 0 rfl) ?_
        refine lv_if_eq (tgt := 79) hx hb d_Mo_letters_66 (by decide) (fun c10 => ?_) (fun c10 => absurd (by decide) c10)
        refine lv_iload_n hx hb d_Mo_letters_79 rfl (lv_at hl 0 rfl) ?_
        refine lv_if_eq (tgt := 101) hx hb d_Mo_letters_80 (by decide) (fun c11 => ?_) (fun c11 => absurd (by decide) c11)
        refine lv_aload_n hx hb d_Mo_letters_101 rfl (lv_at hl 2 rfl) ?_
        refine gh_callV C V hl.1 m_Mo_peek l_Mo_185 (c_Mo_pk l E _ _ a ad _ _ _ tx n p9 X.1 hT h21 (by omega)) rfl X.1.1 gc_Mo ⟨by first | decide | omega | (dsimp only; omega), by first | decide | omega | (dsimp only; omega)⟩ ⟨by first | decide | omega | (dsimp only; omega), by first | decide | omega | (dsimp only; omega)⟩ (Nat.le_of_ble_eq_true rfl) rfl d_Mo_letters_102 (fun r z9 H locs hp9 V1 => ?_)
        obtain ⟨rfl, he9⟩ := hp9
        rw [he9] at V1
        have V := V1
        refine W.eq (g2 := F0 m 105 ls [.int (pek (sg tx n p9))]) rfl ?_
        refine lv_if_lt (tgt := 114) hx hb d_Mo_letters_105 (by decide) (fun c12 => ?_) (fun c12 => absurd ((pek_0 (by omega)).mpr (by unfold sg; rw [if_neg (by omega)])) c12)
        refine lv_iconst (v := 0) hx hb d_Mo_letters_114 (by decide) ?_
        refine gh_retz hAe C V hr (by first | rfl | decide) hlocks d_Mo_letters_115 (by first | decide | omega | (dsimp only; omega)) (by first | decide | omega | (dsimp only; omega)) ?_
        rw [← hrd]
        rw [rd_s_o, if_pos hnp]
        refine ⟨rfl, _, _, _, X, h21, ⟨fun z => (by cases z), fun _ X hz => (by cases hz)⟩⟩
      · have htx : sg tx n p9 = tx p9 := ((hT.ch p9).2 (by omega)).1
        have h32 := ((hT.ch p9).2 (by omega)).2
        by_cases hq : tx p9 = 34
        · refine lv_aload_n hx hb d_Mo_letters_41 rfl (lv_at hl 1 rfl) ?_
          refine gh_callV C V hl.1 m_Mo_peek l_Mo_185 (c_Mo_pk l E _ _ a ad _ _ _ tx n p9 X.1 hT h21 (by omega)) rfl X.1.1 gc_Mo ⟨by first | decide | omega | (dsimp only; omega), by first | decide | omega | (dsimp only; omega)⟩ ⟨by first | decide | omega | (dsimp only; omega), by first | decide | omega | (dsimp only; omega)⟩ (Nat.le_of_ble_eq_true rfl) rfl d_Mo_letters_42 (fun r z9 H locs hp9 V1 => ?_)
          obtain ⟨rfl, he9⟩ := hp9
          rw [he9] at V1
          have V := V1
          refine W.eq (g2 := F0 m 45 ls [.int (pek (sg tx n p9))]) rfl ?_
          refine lv_bipush (v := 34) hx hb d_Mo_letters_45 (by decide) ?_
          refine lv_icmp_eq (tgt := 148) hx hb d_Mo_letters_47 (by decide) (fun c13 => ?_) (fun c13 => absurd ((pek_eq (k := 34) (by omega) (by omega) (by omega)).mpr (by omega)) c13)
          refine lv_aload_n hx hb d_Mo_letters_148 rfl (lv_at hl 1 rfl) ?_
          refine lv_dup hx hb d_Mo_letters_149 rfl ?_
          refine mo_getS (v := nI p9) C V X 21 (by decide) (by decide) (by first | rfl | exact hS21) f_Mo_179 rfl d_Mo_letters_150 ?_
          refine lv_iconst (v := 1) hx hb d_Mo_letters_153 (by decide) ?_
          refine gn_iadd (a := p9) (b := 1) hx hb d_Mo_letters_154 ?_
          refine mo_putS C V X 21 (by decide) (by decide) f_Mo_179 rfl rfl rfl d_Mo_letters_155 (fun f1 H locs V1 X1 => ?_)
          clear V X
          have V := V1
          have X := X1
          clear V1 X1
          have h21 : (va_up S1 21 (nI (p9 + 1))) 21 = nI (p9 + 1) := va_up_s
          have hS21 := h21
          have hT : rT tx n (va_up S1 21 (nI (p9 + 1))) I1 := hT.keep (va_up_n (by decide)) rfl
          refine lv_aload_n hx hb d_Mo_letters_158 rfl (lv_at hl 1 rfl) ?_
          refine lv_iload_n hx hb d_Mo_letters_159 rfl (lv_at hl 2 rfl) ?_
          refine mo_putS C V X 28 (by decide) (by decide) f_Mo_189 rfl rfl rfl d_Mo_letters_160 (fun f1 H locs V1 X1 => ?_)
          clear V X
          have V := V1
          have X := X1
          clear V1 X1
          refine lv_iconst (v := 1) hx hb d_Mo_letters_163 (by decide) ?_
          refine gh_retz hAe C V hr (by first | rfl | decide) hlocks d_Mo_letters_164 (by first | decide | omega | (dsimp only; omega)) (by first | decide | omega | (dsimp only; omega)) ?_
          rw [← hrd]
          rw [rd_s_o, if_neg hnp, if_pos hq]
          obtain ⟨g1, g2, g3⟩ := sb_mw (b0 := 29) (pb := 0) (np := np) hmk hsb hLk h29 hnv h29
          refine ⟨rfl, _, _, _, X, by simp [va_up], ⟨fun z => (by cases z), fun _ X9 hz => ?_⟩⟩
          have hz : vt_t L = X9 := by injection hz
          subst hz
          exact ⟨fun k a1 a2 a3 => by rw [va_up_n a3, va_up_n a2]; exact hS k a1 a2, g3, g2.1, nv + 1, nv, ⟨Nat.le_succ _, Nat.le_refl _, g2.2⟩, by rw [va_up_n (by decide), va_up_n (by decide)]; exact h11c, va_up_s, g1⟩
        · by_cases hbs : tx p9 = 92
          · have hs1 := hsg (p9 + 1)
            by_cases hes : (sg tx n (p9 + 1) ≠ 34 ∧ sg tx n (p9 + 1) ≠ 92) ∨ 24 ≤ L.length
            · by_cases he2 : sg tx n (p9 + 1) ≠ 34 ∧ sg tx n (p9 + 1) ≠ 92
              · refine lv_aload_n hx hb d_Mo_letters_41 rfl (lv_at hl 1 rfl) ?_
                refine gh_callV C V hl.1 m_Mo_peek l_Mo_185 (c_Mo_pk l E _ _ a ad _ _ _ tx n p9 X.1 hT h21 (by omega)) rfl X.1.1 gc_Mo ⟨by first | decide | omega | (dsimp only; omega), by first | decide | omega | (dsimp only; omega)⟩ ⟨by first | decide | omega | (dsimp only; omega), by first | decide | omega | (dsimp only; omega)⟩ (Nat.le_of_ble_eq_true rfl) rfl d_Mo_letters_42 (fun r z9 H locs hp9 V1 => ?_)
                obtain ⟨rfl, he9⟩ := hp9
                rw [he9] at V1
                have V := V1
                refine W.eq (g2 := F0 m 45 ls [.int (pek (sg tx n p9))]) rfl ?_
                refine lv_bipush (v := 34) hx hb d_Mo_letters_45 (by decide) ?_
                refine lv_icmp_eq (tgt := 148) hx hb d_Mo_letters_47 (by decide) (fun c14 => absurd c14 (fun z => (fun z => by omega) ((pek_eq (k := 34) (by omega) (by omega) (by omega)).mp z))) (fun c14 => ?_)
                refine lv_aload_n hx hb d_Mo_letters_50 rfl (lv_at hl 1 rfl) ?_
                refine gh_callV C V hl.1 m_Mo_peek l_Mo_185 (c_Mo_pk l E _ _ a ad _ _ _ tx n p9 X.1 hT h21 (by omega)) rfl X.1.1 gc_Mo ⟨by first | decide | omega | (dsimp only; omega), by first | decide | omega | (dsimp only; omega)⟩ ⟨by first | decide | omega | (dsimp only; omega), by first | decide | omega | (dsimp only; omega)⟩ (Nat.le_of_ble_eq_true rfl) rfl d_Mo_letters_51 (fun r z9 H locs hp9 V1 => ?_)
                obtain ⟨rfl, he9⟩ := hp9
                rw [he9] at V1
                have V := V1
                refine W.eq (g2 := F0 m 54 ls [.int (pek (sg tx n p9))]) rfl ?_
                refine lv_bipush (v := 92) hx hb d_Mo_letters_54 (by decide) ?_
                refine lv_icmp_ne (tgt := 63) hx hb d_Mo_letters_56 (by decide) (fun c15 => absurd ((pek_eq (k := 92) (by omega) (by omega) (by omega)).mpr (by omega)) c15) (fun c15 => ?_)
                refine lv_iconst (v := 1) hx hb d_Mo_letters_59 (by decide) ?_
                refine lv_goto (tgt := 64) hx hb d_Mo_letters_60 (by decide) ?_
                refine lv_istore_n hx hb d_Mo_letters_64 rfl hl (by decide) rfl (fun ls hl => ?_)
                have hl : lv_has ls 4 [(3, .int 1), (2, .int (nI L.length)), (0, .ref a), (1, .int (nI nv))] := hl
                refine lv_iload_n hx hb d_Mo_letters_65 rfl (lv_at hl 0 rfl) ?_
                refine lv_if_eq (tgt := 79) hx hb d_Mo_letters_66 (by decide) (fun c16 => absurd c16 (by decide)) (fun c16 => ?_)
                refine lv_aload_n hx hb d_Mo_letters_69 rfl (lv_at hl 2 rfl) ?_
                refine lv_dup hx hb d_Mo_letters_70 rfl ?_
                refine mo_getS (v := nI p9) C V X 21 (by decide) (by decide) (by first | rfl | exact hS21) f_Mo_179 rfl d_Mo_letters_71 ?_
                refine lv_iconst (v := 1) hx hb d_Mo_letters_74 (by decide) ?_
                refine gn_iadd (a := p9) (b := 1) hx hb d_Mo_letters_75 ?_
                refine mo_putS C V X 21 (by decide) (by decide) f_Mo_179 rfl rfl rfl d_Mo_letters_76 (fun f1 H locs V1 X1 => ?_)
                clear V X
                have V := V1
                have X := X1
                clear V1 X1
                have h21 : (va_up S1 21 (nI (p9 + 1))) 21 = nI (p9 + 1) := va_up_s
                have hS21 := h21
                have hT : rT tx n (va_up S1 21 (nI (p9 + 1))) I1 := hT.keep (va_up_n (by decide)) rfl
                refine lv_iload_n hx hb d_Mo_letters_79 rfl (lv_at hl 0 rfl) ?_
                refine lv_if_eq (tgt := 101) hx hb d_Mo_letters_80 (by decide) (fun c17 => absurd c17 (by decide)) (fun c17 => ?_)
                refine lv_aload_n hx hb d_Mo_letters_83 rfl (lv_at hl 2 rfl) ?_
                refine gh_callV C V hl.1 m_Mo_peek l_Mo_185 (c_Mo_pk l E _ _ a ad _ _ _ tx n (p9 + 1) X.1 hT h21 (by omega)) rfl X.1.1 gc_Mo ⟨by first | decide | omega | (dsimp only; omega), by first | decide | omega | (dsimp only; omega)⟩ ⟨by first | decide | omega | (dsimp only; omega), by first | decide | omega | (dsimp only; omega)⟩ (Nat.le_of_ble_eq_true rfl) rfl d_Mo_letters_84 (fun r z9 H locs hp9 V1 => ?_)
                obtain ⟨rfl, he9⟩ := hp9
                rw [he9] at V1
                have V := V1
                refine W.eq (g2 := F0 m 87 ls [.int (pek (sg tx n (p9 + 1)))]) rfl ?_
                refine lv_bipush (v := 92) hx hb d_Mo_letters_87 (by decide) ?_
                refine lv_icmp_eq (tgt := 101) hx hb d_Mo_letters_89 (by decide) (fun c18 => absurd c18 (fun z => he2.2 ((pek_eq (k := 92) (by omega) (by omega) (by omega)).mp z))) (fun c18 => ?_)
                refine lv_aload_n hx hb d_Mo_letters_92 rfl (lv_at hl 2 rfl) ?_
                refine gh_callV C V hl.1 m_Mo_peek l_Mo_185 (c_Mo_pk l E _ _ a ad _ _ _ tx n (p9 + 1) X.1 hT h21 (by omega)) rfl X.1.1 gc_Mo ⟨by first | decide | omega | (dsimp only; omega), by first | decide | omega | (dsimp only; omega)⟩ ⟨by first | decide | omega | (dsimp only; omega), by first | decide | omega | (dsimp only; omega)⟩ (Nat.le_of_ble_eq_true rfl) rfl d_Mo_letters_93 (fun r z9 H locs hp9 V1 => ?_)
                obtain ⟨rfl, he9⟩ := hp9
                rw [he9] at V1
                have V := V1
                refine W.eq (g2 := F0 m 96 ls [.int (pek (sg tx n (p9 + 1)))]) rfl ?_
                refine lv_bipush (v := 34) hx hb d_Mo_letters_96 (by decide) ?_
                refine lv_icmp_ne (tgt := 114) hx hb d_Mo_letters_98 (by decide) (fun c19 => ?_) (fun c19 => absurd c19 (fun z => he2.1 ((pek_eq (k := 34) (by omega) (by omega) (by omega)).mp z)))
                refine lv_iconst (v := 0) hx hb d_Mo_letters_114 (by decide) ?_
                refine gh_retz hAe C V hr (by first | rfl | decide) hlocks d_Mo_letters_115 (by first | decide | omega | (dsimp only; omega)) (by first | decide | omega | (dsimp only; omega)) ?_
                rw [← hrd]
                rw [rd_s_o, if_neg hnp, if_neg hq, if_pos hbs, if_pos hes]
                refine ⟨rfl, _, _, _, X, h21, ⟨fun z => (by cases z), fun _ X hz => (by cases hz)⟩⟩
              · have h24 : L.length = 24 := by omega
                by_cases he3 : sg tx n (p9 + 1) = 92
                · refine lv_aload_n hx hb d_Mo_letters_41 rfl (lv_at hl 1 rfl) ?_
                  refine gh_callV C V hl.1 m_Mo_peek l_Mo_185 (c_Mo_pk l E _ _ a ad _ _ _ tx n p9 X.1 hT h21 (by omega)) rfl X.1.1 gc_Mo ⟨by first | decide | omega | (dsimp only; omega), by first | decide | omega | (dsimp only; omega)⟩ ⟨by first | decide | omega | (dsimp only; omega), by first | decide | omega | (dsimp only; omega)⟩ (Nat.le_of_ble_eq_true rfl) rfl d_Mo_letters_42 (fun r z9 H locs hp9 V1 => ?_)
                  obtain ⟨rfl, he9⟩ := hp9
                  rw [he9] at V1
                  have V := V1
                  refine W.eq (g2 := F0 m 45 ls [.int (pek (sg tx n p9))]) rfl ?_
                  refine lv_bipush (v := 34) hx hb d_Mo_letters_45 (by decide) ?_
                  refine lv_icmp_eq (tgt := 148) hx hb d_Mo_letters_47 (by decide) (fun c20 => absurd c20 (fun z => (fun z => by omega) ((pek_eq (k := 34) (by omega) (by omega) (by omega)).mp z))) (fun c20 => ?_)
                  refine lv_aload_n hx hb d_Mo_letters_50 rfl (lv_at hl 1 rfl) ?_
                  refine gh_callV C V hl.1 m_Mo_peek l_Mo_185 (c_Mo_pk l E _ _ a ad _ _ _ tx n p9 X.1 hT h21 (by omega)) rfl X.1.1 gc_Mo ⟨by first | decide | omega | (dsimp only; omega), by first | decide | omega | (dsimp only; omega)⟩ ⟨by first | decide | omega | (dsimp only; omega), by first | decide | omega | (dsimp only; omega)⟩ (Nat.le_of_ble_eq_true rfl) rfl d_Mo_letters_51 (fun r z9 H locs hp9 V1 => ?_)
                  obtain ⟨rfl, he9⟩ := hp9
                  rw [he9] at V1
                  have V := V1
                  refine W.eq (g2 := F0 m 54 ls [.int (pek (sg tx n p9))]) rfl ?_
                  refine lv_bipush (v := 92) hx hb d_Mo_letters_54 (by decide) ?_
                  refine lv_icmp_ne (tgt := 63) hx hb d_Mo_letters_56 (by decide) (fun c21 => absurd ((pek_eq (k := 92) (by omega) (by omega) (by omega)).mpr (by omega)) c21) (fun c21 => ?_)
                  refine lv_iconst (v := 1) hx hb d_Mo_letters_59 (by decide) ?_
                  refine lv_goto (tgt := 64) hx hb d_Mo_letters_60 (by decide) ?_
                  refine lv_istore_n hx hb d_Mo_letters_64 rfl hl (by decide) rfl (fun ls hl => ?_)
                  have hl : lv_has ls 4 [(3, .int 1), (2, .int (nI L.length)), (0, .ref a), (1, .int (nI nv))] := hl
                  refine lv_iload_n hx hb d_Mo_letters_65 rfl (lv_at hl 0 rfl) ?_
                  refine lv_if_eq (tgt := 79) hx hb d_Mo_letters_66 (by decide) (fun c22 => absurd c22 (by decide)) (fun c22 => ?_)
                  refine lv_aload_n hx hb d_Mo_letters_69 rfl (lv_at hl 2 rfl) ?_
                  refine lv_dup hx hb d_Mo_letters_70 rfl ?_
                  refine mo_getS (v := nI p9) C V X 21 (by decide) (by decide) (by first | rfl | exact hS21) f_Mo_179 rfl d_Mo_letters_71 ?_
                  refine lv_iconst (v := 1) hx hb d_Mo_letters_74 (by decide) ?_
                  refine gn_iadd (a := p9) (b := 1) hx hb d_Mo_letters_75 ?_
                  refine mo_putS C V X 21 (by decide) (by decide) f_Mo_179 rfl rfl rfl d_Mo_letters_76 (fun f1 H locs V1 X1 => ?_)
                  clear V X
                  have V := V1
                  have X := X1
                  clear V1 X1
                  have h21 : (va_up S1 21 (nI (p9 + 1))) 21 = nI (p9 + 1) := va_up_s
                  have hS21 := h21
                  have hT : rT tx n (va_up S1 21 (nI (p9 + 1))) I1 := hT.keep (va_up_n (by decide)) rfl
                  refine lv_iload_n hx hb d_Mo_letters_79 rfl (lv_at hl 0 rfl) ?_
                  refine lv_if_eq (tgt := 101) hx hb d_Mo_letters_80 (by decide) (fun c23 => absurd c23 (by decide)) (fun c23 => ?_)
                  refine lv_aload_n hx hb d_Mo_letters_83 rfl (lv_at hl 2 rfl) ?_
                  refine gh_callV C V hl.1 m_Mo_peek l_Mo_185 (c_Mo_pk l E _ _ a ad _ _ _ tx n (p9 + 1) X.1 hT h21 (by omega)) rfl X.1.1 gc_Mo ⟨by first | decide | omega | (dsimp only; omega), by first | decide | omega | (dsimp only; omega)⟩ ⟨by first | decide | omega | (dsimp only; omega), by first | decide | omega | (dsimp only; omega)⟩ (Nat.le_of_ble_eq_true rfl) rfl d_Mo_letters_84 (fun r z9 H locs hp9 V1 => ?_)
                  obtain ⟨rfl, he9⟩ := hp9
                  rw [he9] at V1
                  have V := V1
                  refine W.eq (g2 := F0 m 87 ls [.int (pek (sg tx n (p9 + 1)))]) rfl ?_
                  refine lv_bipush (v := 92) hx hb d_Mo_letters_87 (by decide) ?_
                  refine lv_icmp_eq (tgt := 101) hx hb d_Mo_letters_89 (by decide) (fun c24 => ?_) (fun c24 => absurd ((pek_eq (k := 92) (by omega) (by omega) (by omega)).mpr he3) c24)
                  refine lv_aload_n hx hb d_Mo_letters_101 rfl (lv_at hl 2 rfl) ?_
                  refine gh_callV C V hl.1 m_Mo_peek l_Mo_185 (c_Mo_pk l E _ _ a ad _ _ _ tx n (p9 + 1) X.1 hT h21 (by omega)) rfl X.1.1 gc_Mo ⟨by first | decide | omega | (dsimp only; omega), by first | decide | omega | (dsimp only; omega)⟩ ⟨by first | decide | omega | (dsimp only; omega), by first | decide | omega | (dsimp only; omega)⟩ (Nat.le_of_ble_eq_true rfl) rfl d_Mo_letters_102 (fun r z9 H locs hp9 V1 => ?_)
                  obtain ⟨rfl, he9⟩ := hp9
                  rw [he9] at V1
                  have V := V1
                  refine W.eq (g2 := F0 m 105 ls [.int (pek (sg tx n (p9 + 1)))]) rfl ?_
                  refine lv_if_lt (tgt := 114) hx hb d_Mo_letters_105 (by decide) (fun c25 => absurd c25 (fun z => absurd ((pek_0 (by omega)).mp z) (by omega))) (fun c25 => ?_)
                  refine lv_iload_n hx hb d_Mo_letters_108 rfl (lv_at hl 1 rfl) ?_
                  refine lv_bipush (v := 24) hx hb d_Mo_letters_109 (by decide) ?_
                  refine lv_icmp_ne (tgt := 116) hx hb d_Mo_letters_111 (by decide) (fun c26 => absurd (by rw [h24]; rfl) c26) (fun c26 => ?_)
                  refine lv_iconst (v := 0) hx hb d_Mo_letters_114 (by decide) ?_
                  refine gh_retz hAe C V hr (by first | rfl | decide) hlocks d_Mo_letters_115 (by first | decide | omega | (dsimp only; omega)) (by first | decide | omega | (dsimp only; omega)) ?_
                  rw [← hrd]
                  rw [rd_s_o, if_neg hnp, if_neg hq, if_pos hbs, if_pos hes]
                  refine ⟨rfl, _, _, _, X, h21, ⟨fun z => (by cases z), fun _ X hz => (by cases hz)⟩⟩
                · refine lv_aload_n hx hb d_Mo_letters_41 rfl (lv_at hl 1 rfl) ?_
                  refine gh_callV C V hl.1 m_Mo_peek l_Mo_185 (c_Mo_pk l E _ _ a ad _ _ _ tx n p9 X.1 hT h21 (by omega)) rfl X.1.1 gc_Mo ⟨by first | decide | omega | (dsimp only; omega), by first | decide | omega | (dsimp only; omega)⟩ ⟨by first | decide | omega | (dsimp only; omega), by first | decide | omega | (dsimp only; omega)⟩ (Nat.le_of_ble_eq_true rfl) rfl d_Mo_letters_42 (fun r z9 H locs hp9 V1 => ?_)
                  obtain ⟨rfl, he9⟩ := hp9
                  rw [he9] at V1
                  have V := V1
                  refine W.eq (g2 := F0 m 45 ls [.int (pek (sg tx n p9))]) rfl ?_
                  refine lv_bipush (v := 34) hx hb d_Mo_letters_45 (by decide) ?_
                  refine lv_icmp_eq (tgt := 148) hx hb d_Mo_letters_47 (by decide) (fun c27 => absurd c27 (fun z => (fun z => by omega) ((pek_eq (k := 34) (by omega) (by omega) (by omega)).mp z))) (fun c27 => ?_)
                  refine lv_aload_n hx hb d_Mo_letters_50 rfl (lv_at hl 1 rfl) ?_
                  refine gh_callV C V hl.1 m_Mo_peek l_Mo_185 (c_Mo_pk l E _ _ a ad _ _ _ tx n p9 X.1 hT h21 (by omega)) rfl X.1.1 gc_Mo ⟨by first | decide | omega | (dsimp only; omega), by first | decide | omega | (dsimp only; omega)⟩ ⟨by first | decide | omega | (dsimp only; omega), by first | decide | omega | (dsimp only; omega)⟩ (Nat.le_of_ble_eq_true rfl) rfl d_Mo_letters_51 (fun r z9 H locs hp9 V1 => ?_)
                  obtain ⟨rfl, he9⟩ := hp9
                  rw [he9] at V1
                  have V := V1
                  refine W.eq (g2 := F0 m 54 ls [.int (pek (sg tx n p9))]) rfl ?_
                  refine lv_bipush (v := 92) hx hb d_Mo_letters_54 (by decide) ?_
                  refine lv_icmp_ne (tgt := 63) hx hb d_Mo_letters_56 (by decide) (fun c28 => absurd ((pek_eq (k := 92) (by omega) (by omega) (by omega)).mpr (by omega)) c28) (fun c28 => ?_)
                  refine lv_iconst (v := 1) hx hb d_Mo_letters_59 (by decide) ?_
                  refine lv_goto (tgt := 64) hx hb d_Mo_letters_60 (by decide) ?_
                  refine lv_istore_n hx hb d_Mo_letters_64 rfl hl (by decide) rfl (fun ls hl => ?_)
                  have hl : lv_has ls 4 [(3, .int 1), (2, .int (nI L.length)), (0, .ref a), (1, .int (nI nv))] := hl
                  refine lv_iload_n hx hb d_Mo_letters_65 rfl (lv_at hl 0 rfl) ?_
                  refine lv_if_eq (tgt := 79) hx hb d_Mo_letters_66 (by decide) (fun c29 => absurd c29 (by decide)) (fun c29 => ?_)
                  refine lv_aload_n hx hb d_Mo_letters_69 rfl (lv_at hl 2 rfl) ?_
                  refine lv_dup hx hb d_Mo_letters_70 rfl ?_
                  refine mo_getS (v := nI p9) C V X 21 (by decide) (by decide) (by first | rfl | exact hS21) f_Mo_179 rfl d_Mo_letters_71 ?_
                  refine lv_iconst (v := 1) hx hb d_Mo_letters_74 (by decide) ?_
                  refine gn_iadd (a := p9) (b := 1) hx hb d_Mo_letters_75 ?_
                  refine mo_putS C V X 21 (by decide) (by decide) f_Mo_179 rfl rfl rfl d_Mo_letters_76 (fun f1 H locs V1 X1 => ?_)
                  clear V X
                  have V := V1
                  have X := X1
                  clear V1 X1
                  have h21 : (va_up S1 21 (nI (p9 + 1))) 21 = nI (p9 + 1) := va_up_s
                  have hS21 := h21
                  have hT : rT tx n (va_up S1 21 (nI (p9 + 1))) I1 := hT.keep (va_up_n (by decide)) rfl
                  refine lv_iload_n hx hb d_Mo_letters_79 rfl (lv_at hl 0 rfl) ?_
                  refine lv_if_eq (tgt := 101) hx hb d_Mo_letters_80 (by decide) (fun c30 => absurd c30 (by decide)) (fun c30 => ?_)
                  refine lv_aload_n hx hb d_Mo_letters_83 rfl (lv_at hl 2 rfl) ?_
                  refine gh_callV C V hl.1 m_Mo_peek l_Mo_185 (c_Mo_pk l E _ _ a ad _ _ _ tx n (p9 + 1) X.1 hT h21 (by omega)) rfl X.1.1 gc_Mo ⟨by first | decide | omega | (dsimp only; omega), by first | decide | omega | (dsimp only; omega)⟩ ⟨by first | decide | omega | (dsimp only; omega), by first | decide | omega | (dsimp only; omega)⟩ (Nat.le_of_ble_eq_true rfl) rfl d_Mo_letters_84 (fun r z9 H locs hp9 V1 => ?_)
                  obtain ⟨rfl, he9⟩ := hp9
                  rw [he9] at V1
                  have V := V1
                  refine W.eq (g2 := F0 m 87 ls [.int (pek (sg tx n (p9 + 1)))]) rfl ?_
                  refine lv_bipush (v := 92) hx hb d_Mo_letters_87 (by decide) ?_
                  refine lv_icmp_eq (tgt := 101) hx hb d_Mo_letters_89 (by decide) (fun c31 => absurd c31 (fun z => he3 ((pek_eq (k := 92) (by omega) (by omega) (by omega)).mp z))) (fun c31 => ?_)
                  refine lv_aload_n hx hb d_Mo_letters_92 rfl (lv_at hl 2 rfl) ?_
                  refine gh_callV C V hl.1 m_Mo_peek l_Mo_185 (c_Mo_pk l E _ _ a ad _ _ _ tx n (p9 + 1) X.1 hT h21 (by omega)) rfl X.1.1 gc_Mo ⟨by first | decide | omega | (dsimp only; omega), by first | decide | omega | (dsimp only; omega)⟩ ⟨by first | decide | omega | (dsimp only; omega), by first | decide | omega | (dsimp only; omega)⟩ (Nat.le_of_ble_eq_true rfl) rfl d_Mo_letters_93 (fun r z9 H locs hp9 V1 => ?_)
                  obtain ⟨rfl, he9⟩ := hp9
                  rw [he9] at V1
                  have V := V1
                  refine W.eq (g2 := F0 m 96 ls [.int (pek (sg tx n (p9 + 1)))]) rfl ?_
                  refine lv_bipush (v := 34) hx hb d_Mo_letters_96 (by decide) ?_
                  refine lv_icmp_ne (tgt := 114) hx hb d_Mo_letters_98 (by decide) (fun c32 => absurd ((pek_eq (k := 34) (by omega) (by omega) (by omega)).mpr (by omega)) c32) (fun c32 => ?_)
                  refine lv_aload_n hx hb d_Mo_letters_101 rfl (lv_at hl 2 rfl) ?_
                  refine gh_callV C V hl.1 m_Mo_peek l_Mo_185 (c_Mo_pk l E _ _ a ad _ _ _ tx n (p9 + 1) X.1 hT h21 (by omega)) rfl X.1.1 gc_Mo ⟨by first | decide | omega | (dsimp only; omega), by first | decide | omega | (dsimp only; omega)⟩ ⟨by first | decide | omega | (dsimp only; omega), by first | decide | omega | (dsimp only; omega)⟩ (Nat.le_of_ble_eq_true rfl) rfl d_Mo_letters_102 (fun r z9 H locs hp9 V1 => ?_)
                  obtain ⟨rfl, he9⟩ := hp9
                  rw [he9] at V1
                  have V := V1
                  refine W.eq (g2 := F0 m 105 ls [.int (pek (sg tx n (p9 + 1)))]) rfl ?_
                  refine lv_if_lt (tgt := 114) hx hb d_Mo_letters_105 (by decide) (fun c33 => absurd c33 (fun z => absurd ((pek_0 (by omega)).mp z) (by omega))) (fun c33 => ?_)
                  refine lv_iload_n hx hb d_Mo_letters_108 rfl (lv_at hl 1 rfl) ?_
                  refine lv_bipush (v := 24) hx hb d_Mo_letters_109 (by decide) ?_
                  refine lv_icmp_ne (tgt := 116) hx hb d_Mo_letters_111 (by decide) (fun c34 => absurd (by rw [h24]; rfl) c34) (fun c34 => ?_)
                  refine lv_iconst (v := 0) hx hb d_Mo_letters_114 (by decide) ?_
                  refine gh_retz hAe C V hr (by first | rfl | decide) hlocks d_Mo_letters_115 (by first | decide | omega | (dsimp only; omega)) (by first | decide | omega | (dsimp only; omega)) ?_
                  rw [← hrd]
                  rw [rd_s_o, if_neg hnp, if_neg hq, if_pos hbs, if_pos hes]
                  refine ⟨rfl, _, _, _, X, h21, ⟨fun z => (by cases z), fun _ X hz => (by cases hz)⟩⟩
            · have hln : p9 + 1 < n := sg_lt (by omega : sg tx n (p9 + 1) ≠ 0)
              have hc1 := ((hT.ch (p9 + 1)).2 hln)
              by_cases he3 : sg tx n (p9 + 1) = 92
              · refine lv_aload_n hx hb d_Mo_letters_41 rfl (lv_at hl 1 rfl) ?_
                refine gh_callV C V hl.1 m_Mo_peek l_Mo_185 (c_Mo_pk l E _ _ a ad _ _ _ tx n p9 X.1 hT h21 (by omega)) rfl X.1.1 gc_Mo ⟨by first | decide | omega | (dsimp only; omega), by first | decide | omega | (dsimp only; omega)⟩ ⟨by first | decide | omega | (dsimp only; omega), by first | decide | omega | (dsimp only; omega)⟩ (Nat.le_of_ble_eq_true rfl) rfl d_Mo_letters_42 (fun r z9 H locs hp9 V1 => ?_)
                obtain ⟨rfl, he9⟩ := hp9
                rw [he9] at V1
                have V := V1
                refine W.eq (g2 := F0 m 45 ls [.int (pek (sg tx n p9))]) rfl ?_
                refine lv_bipush (v := 34) hx hb d_Mo_letters_45 (by decide) ?_
                refine lv_icmp_eq (tgt := 148) hx hb d_Mo_letters_47 (by decide) (fun c35 => absurd c35 (fun z => (fun z => by omega) ((pek_eq (k := 34) (by omega) (by omega) (by omega)).mp z))) (fun c35 => ?_)
                refine lv_aload_n hx hb d_Mo_letters_50 rfl (lv_at hl 1 rfl) ?_
                refine gh_callV C V hl.1 m_Mo_peek l_Mo_185 (c_Mo_pk l E _ _ a ad _ _ _ tx n p9 X.1 hT h21 (by omega)) rfl X.1.1 gc_Mo ⟨by first | decide | omega | (dsimp only; omega), by first | decide | omega | (dsimp only; omega)⟩ ⟨by first | decide | omega | (dsimp only; omega), by first | decide | omega | (dsimp only; omega)⟩ (Nat.le_of_ble_eq_true rfl) rfl d_Mo_letters_51 (fun r z9 H locs hp9 V1 => ?_)
                obtain ⟨rfl, he9⟩ := hp9
                rw [he9] at V1
                have V := V1
                refine W.eq (g2 := F0 m 54 ls [.int (pek (sg tx n p9))]) rfl ?_
                refine lv_bipush (v := 92) hx hb d_Mo_letters_54 (by decide) ?_
                refine lv_icmp_ne (tgt := 63) hx hb d_Mo_letters_56 (by decide) (fun c36 => absurd ((pek_eq (k := 92) (by omega) (by omega) (by omega)).mpr (by omega)) c36) (fun c36 => ?_)
                refine lv_iconst (v := 1) hx hb d_Mo_letters_59 (by decide) ?_
                refine lv_goto (tgt := 64) hx hb d_Mo_letters_60 (by decide) ?_
                refine lv_istore_n hx hb d_Mo_letters_64 rfl hl (by decide) rfl (fun ls hl => ?_)
                have hl : lv_has ls 4 [(3, .int 1), (2, .int (nI L.length)), (0, .ref a), (1, .int (nI nv))] := hl
                refine lv_iload_n hx hb d_Mo_letters_65 rfl (lv_at hl 0 rfl) ?_
                refine lv_if_eq (tgt := 79) hx hb d_Mo_letters_66 (by decide) (fun c37 => absurd c37 (by decide)) (fun c37 => ?_)
                refine lv_aload_n hx hb d_Mo_letters_69 rfl (lv_at hl 2 rfl) ?_
                refine lv_dup hx hb d_Mo_letters_70 rfl ?_
                refine mo_getS (v := nI p9) C V X 21 (by decide) (by decide) (by first | rfl | exact hS21) f_Mo_179 rfl d_Mo_letters_71 ?_
                refine lv_iconst (v := 1) hx hb d_Mo_letters_74 (by decide) ?_
                refine gn_iadd (a := p9) (b := 1) hx hb d_Mo_letters_75 ?_
                refine mo_putS C V X 21 (by decide) (by decide) f_Mo_179 rfl rfl rfl d_Mo_letters_76 (fun f1 H locs V1 X1 => ?_)
                clear V X
                have V := V1
                have X := X1
                clear V1 X1
                have h21 : (va_up S1 21 (nI (p9 + 1))) 21 = nI (p9 + 1) := va_up_s
                have hS21 := h21
                have hT : rT tx n (va_up S1 21 (nI (p9 + 1))) I1 := hT.keep (va_up_n (by decide)) rfl
                refine lv_iload_n hx hb d_Mo_letters_79 rfl (lv_at hl 0 rfl) ?_
                refine lv_if_eq (tgt := 101) hx hb d_Mo_letters_80 (by decide) (fun c38 => absurd c38 (by decide)) (fun c38 => ?_)
                refine lv_aload_n hx hb d_Mo_letters_83 rfl (lv_at hl 2 rfl) ?_
                refine gh_callV C V hl.1 m_Mo_peek l_Mo_185 (c_Mo_pk l E _ _ a ad _ _ _ tx n (p9 + 1) X.1 hT h21 (by omega)) rfl X.1.1 gc_Mo ⟨by first | decide | omega | (dsimp only; omega), by first | decide | omega | (dsimp only; omega)⟩ ⟨by first | decide | omega | (dsimp only; omega), by first | decide | omega | (dsimp only; omega)⟩ (Nat.le_of_ble_eq_true rfl) rfl d_Mo_letters_84 (fun r z9 H locs hp9 V1 => ?_)
                obtain ⟨rfl, he9⟩ := hp9
                rw [he9] at V1
                have V := V1
                refine W.eq (g2 := F0 m 87 ls [.int (pek (sg tx n (p9 + 1)))]) rfl ?_
                refine lv_bipush (v := 92) hx hb d_Mo_letters_87 (by decide) ?_
                refine lv_icmp_eq (tgt := 101) hx hb d_Mo_letters_89 (by decide) (fun c39 => ?_) (fun c39 => absurd ((pek_eq (k := 92) (by omega) (by omega) (by omega)).mpr he3) c39)
                refine lv_aload_n hx hb d_Mo_letters_101 rfl (lv_at hl 2 rfl) ?_
                refine gh_callV C V hl.1 m_Mo_peek l_Mo_185 (c_Mo_pk l E _ _ a ad _ _ _ tx n (p9 + 1) X.1 hT h21 (by omega)) rfl X.1.1 gc_Mo ⟨by first | decide | omega | (dsimp only; omega), by first | decide | omega | (dsimp only; omega)⟩ ⟨by first | decide | omega | (dsimp only; omega), by first | decide | omega | (dsimp only; omega)⟩ (Nat.le_of_ble_eq_true rfl) rfl d_Mo_letters_102 (fun r z9 H locs hp9 V1 => ?_)
                obtain ⟨rfl, he9⟩ := hp9
                rw [he9] at V1
                have V := V1
                refine W.eq (g2 := F0 m 105 ls [.int (pek (sg tx n (p9 + 1)))]) rfl ?_
                refine lv_if_lt (tgt := 114) hx hb d_Mo_letters_105 (by decide) (fun c40 => absurd c40 (fun z => absurd ((pek_0 (by omega)).mp z) (by omega))) (fun c40 => ?_)
                refine lv_iload_n hx hb d_Mo_letters_108 rfl (lv_at hl 1 rfl) ?_
                refine lv_bipush (v := 24) hx hb d_Mo_letters_109 (by decide) ?_
                refine lv_icmp_ne (tgt := 116) hx hb d_Mo_letters_111 (by decide) (fun c41 => ?_) (fun c41 => absurd c41 (fun z => absurd ((nI_eq (b := 24) (by omega) (by decide)).mp z) (by omega)))
                refine lv_aload_n hx hb d_Mo_letters_116 rfl (lv_at hl 2 rfl) ?_
                refine mo_getS (v := 1) C V X 27 (by decide) (by decide) (by first | rfl | exact hS27) f_Mo_206 rfl d_Mo_letters_117 ?_
                refine lv_if_eq (tgt := 132) hx hb d_Mo_letters_120 (by decide) (fun c42 => absurd c42 (by decide)) (fun c42 => ?_)
                refine lv_aload_n hx hb d_Mo_letters_123 rfl (lv_at hl 2 rfl) ?_
                refine lv_iload_n hx hb d_Mo_letters_124 rfl (lv_at hl 3 rfl) ?_
                refine lv_aload_n hx hb d_Mo_letters_125 rfl (lv_at hl 2 rfl) ?_
                refine gh_callV C V hl.1 m_Mo_peek l_Mo_185 (c_Mo_pk l E _ _ a ad _ _ _ tx n (p9 + 1) X.1 hT h21 (by omega)) rfl X.1.1 gc_Mo ⟨by first | decide | omega | (dsimp only; omega), by first | decide | omega | (dsimp only; omega)⟩ ⟨by first | decide | omega | (dsimp only; omega), by first | decide | omega | (dsimp only; omega)⟩ (Nat.le_of_ble_eq_true rfl) rfl d_Mo_letters_126 (fun r z9 H locs hp9 V1 => ?_)
                obtain ⟨rfl, he9⟩ := hp9
                rw [he9] at V1
                have V := V1
                refine W.eq (g2 := F0 m 129 ls [.int (pek (sg tx n (p9 + 1))), .int (nI nv), .ref a]) rfl ?_
                have hpk : pek (sg tx n (p9 + 1)) = nI (sg tx n (p9 + 1)) := by unfold pek; rw [if_neg (by omega)]
                rw [hpk]
                refine gh_callV C V hl.1 m_Mo_addLetter l_Mo_210 (c_Mo_addLetter l E _ _ a ad _ _ _ nv (sg tx n (p9 + 1)) L X.1 hnv hsb.2.1 hsb.2.2.2 (by omega) (by omega)) rfl X.1.1 gc_Mo ⟨by first | decide | omega | (dsimp only; omega), by first | decide | omega | (dsimp only; omega)⟩ ⟨by first | decide | omega | (dsimp only; omega), by first | decide | omega | (dsimp only; omega)⟩ (Nat.le_of_ble_eq_true rfl) rfl d_Mo_letters_129 (fun r z9 H locs hp8 V1 => ?_)
                obtain ⟨rfl, J4, X2, hj4, hl4⟩ := hp8
                have hsb2 := hsb.add hj4 hl4
                have X := X.then X2
                have V := V1
                have hT : rT tx n (va_up S1 21 (nI (p9 + 1))) (va_up I1 3 (upd (I1 3) nv (nI (L.length + 1)))) := hT.keep rfl (va_up_n (by decide))
                refine W.eq (g2 := F0 m 132 ls []) rfl ?_
                refine lv_iinc (k := 1) (v := (nI L.length) + 1) hx hb d_Mo_letters_132 hl rfl (by rfl) (by decide) rfl (fun ls hl => ?_)
                have hl : lv_has ls 4 [(2, .int (nI (L.length + 1))), (3, .int 1), (0, .ref a), (1, .int (nI nv))] := by rw [nI_succ]; exact hl
                refine lv_aload_n hx hb d_Mo_letters_135 rfl (lv_at hl 2 rfl) ?_
                refine lv_dup hx hb d_Mo_letters_136 rfl ?_
                refine mo_getS (v := nI (p9 + 1)) C V X 21 (by decide) (by decide) (by first | rfl | exact hS21) f_Mo_179 rfl d_Mo_letters_137 ?_
                refine lv_iconst (v := 1) hx hb d_Mo_letters_140 (by decide) ?_
                refine gn_iadd (a := p9 + 1) (b := 1) hx hb d_Mo_letters_141 ?_
                refine mo_putS C V X 21 (by decide) (by decide) f_Mo_179 rfl rfl rfl d_Mo_letters_142 (fun f1 H locs V1 X1 => ?_)
                clear V X
                have V := V1
                have X := X1
                clear V1 X1
                have h21 : (va_up (va_up S1 21 (nI (p9 + 1))) 21 (nI ((p9 + 1) + 1))) 21 = nI ((p9 + 1) + 1) := va_up_s
                have hS21 := h21
                have hT : rT tx n (va_up (va_up S1 21 (nI (p9 + 1))) 21 (nI ((p9 + 1) + 1))) (va_up I1 3 (upd (I1 3) nv (nI (L.length + 1)))) := hT.keep (va_up_n (by decide)) rfl
                refine lv_goto (tgt := 41) hx hb d_Mo_letters_145 (by decide) ?_
                have hl : lv_has ls 4 [(2, .int (nI (L.length + 1))), (0, .ref a), (1, .int (nI nv))] := lv_sub hl [0, 2, 3] rfl
                have hl : lv_has ls 4 [(2, .int (nI (L ++ [nI (sg tx n (p9 + 1))]).length)), (0, .ref a), (1, .int (nI nv))] := by rw [List.length_append]; exact hl
                refine ih (p9 + 1 + 1) (L ++ [nI (sg tx n (p9 + 1))]) _ _ _ _ _ _ ls (by omega) (by omega) h21 (hLk.add (by omega) (by omega) (by omega)) ?_ hsb2 (fun k a1 a2 => by rw [va_up_n a2, va_up_n a2]; exact hS k a1 a2) (by rw [va_up_n (by decide), va_up_n (by decide)]; exact h11c) X V hl
                rw [← hrd]
                have hrd3 : rd_s tx n (m9 + 1) p9 L = rd_s tx n m9 (p9 + 1 + 1) (L ++ [nI (sg tx n (p9 + 1))]) := by
                  rw [rd_s_o, if_neg hnp, if_neg hq, if_pos hbs, if_neg hes]
                rw [hrd3]
              · refine lv_aload_n hx hb d_Mo_letters_41 rfl (lv_at hl 1 rfl) ?_
                refine gh_callV C V hl.1 m_Mo_peek l_Mo_185 (c_Mo_pk l E _ _ a ad _ _ _ tx n p9 X.1 hT h21 (by omega)) rfl X.1.1 gc_Mo ⟨by first | decide | omega | (dsimp only; omega), by first | decide | omega | (dsimp only; omega)⟩ ⟨by first | decide | omega | (dsimp only; omega), by first | decide | omega | (dsimp only; omega)⟩ (Nat.le_of_ble_eq_true rfl) rfl d_Mo_letters_42 (fun r z9 H locs hp9 V1 => ?_)
                obtain ⟨rfl, he9⟩ := hp9
                rw [he9] at V1
                have V := V1
                refine W.eq (g2 := F0 m 45 ls [.int (pek (sg tx n p9))]) rfl ?_
                refine lv_bipush (v := 34) hx hb d_Mo_letters_45 (by decide) ?_
                refine lv_icmp_eq (tgt := 148) hx hb d_Mo_letters_47 (by decide) (fun c43 => absurd c43 (fun z => (fun z => by omega) ((pek_eq (k := 34) (by omega) (by omega) (by omega)).mp z))) (fun c43 => ?_)
                refine lv_aload_n hx hb d_Mo_letters_50 rfl (lv_at hl 1 rfl) ?_
                refine gh_callV C V hl.1 m_Mo_peek l_Mo_185 (c_Mo_pk l E _ _ a ad _ _ _ tx n p9 X.1 hT h21 (by omega)) rfl X.1.1 gc_Mo ⟨by first | decide | omega | (dsimp only; omega), by first | decide | omega | (dsimp only; omega)⟩ ⟨by first | decide | omega | (dsimp only; omega), by first | decide | omega | (dsimp only; omega)⟩ (Nat.le_of_ble_eq_true rfl) rfl d_Mo_letters_51 (fun r z9 H locs hp9 V1 => ?_)
                obtain ⟨rfl, he9⟩ := hp9
                rw [he9] at V1
                have V := V1
                refine W.eq (g2 := F0 m 54 ls [.int (pek (sg tx n p9))]) rfl ?_
                refine lv_bipush (v := 92) hx hb d_Mo_letters_54 (by decide) ?_
                refine lv_icmp_ne (tgt := 63) hx hb d_Mo_letters_56 (by decide) (fun c44 => absurd ((pek_eq (k := 92) (by omega) (by omega) (by omega)).mpr (by omega)) c44) (fun c44 => ?_)
                refine lv_iconst (v := 1) hx hb d_Mo_letters_59 (by decide) ?_
                refine lv_goto (tgt := 64) hx hb d_Mo_letters_60 (by decide) ?_
                refine lv_istore_n hx hb d_Mo_letters_64 rfl hl (by decide) rfl (fun ls hl => ?_)
                have hl : lv_has ls 4 [(3, .int 1), (2, .int (nI L.length)), (0, .ref a), (1, .int (nI nv))] := hl
                refine lv_iload_n hx hb d_Mo_letters_65 rfl (lv_at hl 0 rfl) ?_
                refine lv_if_eq (tgt := 79) hx hb d_Mo_letters_66 (by decide) (fun c45 => absurd c45 (by decide)) (fun c45 => ?_)
                refine lv_aload_n hx hb d_Mo_letters_69 rfl (lv_at hl 2 rfl) ?_
                refine lv_dup hx hb d_Mo_letters_70 rfl ?_
                refine mo_getS (v := nI p9) C V X 21 (by decide) (by decide) (by first | rfl | exact hS21) f_Mo_179 rfl d_Mo_letters_71 ?_
                refine lv_iconst (v := 1) hx hb d_Mo_letters_74 (by decide) ?_
                refine gn_iadd (a := p9) (b := 1) hx hb d_Mo_letters_75 ?_
                refine mo_putS C V X 21 (by decide) (by decide) f_Mo_179 rfl rfl rfl d_Mo_letters_76 (fun f1 H locs V1 X1 => ?_)
                clear V X
                have V := V1
                have X := X1
                clear V1 X1
                have h21 : (va_up S1 21 (nI (p9 + 1))) 21 = nI (p9 + 1) := va_up_s
                have hS21 := h21
                have hT : rT tx n (va_up S1 21 (nI (p9 + 1))) I1 := hT.keep (va_up_n (by decide)) rfl
                refine lv_iload_n hx hb d_Mo_letters_79 rfl (lv_at hl 0 rfl) ?_
                refine lv_if_eq (tgt := 101) hx hb d_Mo_letters_80 (by decide) (fun c46 => absurd c46 (by decide)) (fun c46 => ?_)
                refine lv_aload_n hx hb d_Mo_letters_83 rfl (lv_at hl 2 rfl) ?_
                refine gh_callV C V hl.1 m_Mo_peek l_Mo_185 (c_Mo_pk l E _ _ a ad _ _ _ tx n (p9 + 1) X.1 hT h21 (by omega)) rfl X.1.1 gc_Mo ⟨by first | decide | omega | (dsimp only; omega), by first | decide | omega | (dsimp only; omega)⟩ ⟨by first | decide | omega | (dsimp only; omega), by first | decide | omega | (dsimp only; omega)⟩ (Nat.le_of_ble_eq_true rfl) rfl d_Mo_letters_84 (fun r z9 H locs hp9 V1 => ?_)
                obtain ⟨rfl, he9⟩ := hp9
                rw [he9] at V1
                have V := V1
                refine W.eq (g2 := F0 m 87 ls [.int (pek (sg tx n (p9 + 1)))]) rfl ?_
                refine lv_bipush (v := 92) hx hb d_Mo_letters_87 (by decide) ?_
                refine lv_icmp_eq (tgt := 101) hx hb d_Mo_letters_89 (by decide) (fun c47 => absurd c47 (fun z => he3 ((pek_eq (k := 92) (by omega) (by omega) (by omega)).mp z))) (fun c47 => ?_)
                refine lv_aload_n hx hb d_Mo_letters_92 rfl (lv_at hl 2 rfl) ?_
                refine gh_callV C V hl.1 m_Mo_peek l_Mo_185 (c_Mo_pk l E _ _ a ad _ _ _ tx n (p9 + 1) X.1 hT h21 (by omega)) rfl X.1.1 gc_Mo ⟨by first | decide | omega | (dsimp only; omega), by first | decide | omega | (dsimp only; omega)⟩ ⟨by first | decide | omega | (dsimp only; omega), by first | decide | omega | (dsimp only; omega)⟩ (Nat.le_of_ble_eq_true rfl) rfl d_Mo_letters_93 (fun r z9 H locs hp9 V1 => ?_)
                obtain ⟨rfl, he9⟩ := hp9
                rw [he9] at V1
                have V := V1
                refine W.eq (g2 := F0 m 96 ls [.int (pek (sg tx n (p9 + 1)))]) rfl ?_
                refine lv_bipush (v := 34) hx hb d_Mo_letters_96 (by decide) ?_
                refine lv_icmp_ne (tgt := 114) hx hb d_Mo_letters_98 (by decide) (fun c48 => absurd ((pek_eq (k := 34) (by omega) (by omega) (by omega)).mpr (by omega)) c48) (fun c48 => ?_)
                refine lv_aload_n hx hb d_Mo_letters_101 rfl (lv_at hl 2 rfl) ?_
                refine gh_callV C V hl.1 m_Mo_peek l_Mo_185 (c_Mo_pk l E _ _ a ad _ _ _ tx n (p9 + 1) X.1 hT h21 (by omega)) rfl X.1.1 gc_Mo ⟨by first | decide | omega | (dsimp only; omega), by first | decide | omega | (dsimp only; omega)⟩ ⟨by first | decide | omega | (dsimp only; omega), by first | decide | omega | (dsimp only; omega)⟩ (Nat.le_of_ble_eq_true rfl) rfl d_Mo_letters_102 (fun r z9 H locs hp9 V1 => ?_)
                obtain ⟨rfl, he9⟩ := hp9
                rw [he9] at V1
                have V := V1
                refine W.eq (g2 := F0 m 105 ls [.int (pek (sg tx n (p9 + 1)))]) rfl ?_
                refine lv_if_lt (tgt := 114) hx hb d_Mo_letters_105 (by decide) (fun c49 => absurd c49 (fun z => absurd ((pek_0 (by omega)).mp z) (by omega))) (fun c49 => ?_)
                refine lv_iload_n hx hb d_Mo_letters_108 rfl (lv_at hl 1 rfl) ?_
                refine lv_bipush (v := 24) hx hb d_Mo_letters_109 (by decide) ?_
                refine lv_icmp_ne (tgt := 116) hx hb d_Mo_letters_111 (by decide) (fun c50 => ?_) (fun c50 => absurd c50 (fun z => absurd ((nI_eq (b := 24) (by omega) (by decide)).mp z) (by omega)))
                refine lv_aload_n hx hb d_Mo_letters_116 rfl (lv_at hl 2 rfl) ?_
                refine mo_getS (v := 1) C V X 27 (by decide) (by decide) (by first | rfl | exact hS27) f_Mo_206 rfl d_Mo_letters_117 ?_
                refine lv_if_eq (tgt := 132) hx hb d_Mo_letters_120 (by decide) (fun c51 => absurd c51 (by decide)) (fun c51 => ?_)
                refine lv_aload_n hx hb d_Mo_letters_123 rfl (lv_at hl 2 rfl) ?_
                refine lv_iload_n hx hb d_Mo_letters_124 rfl (lv_at hl 3 rfl) ?_
                refine lv_aload_n hx hb d_Mo_letters_125 rfl (lv_at hl 2 rfl) ?_
                refine gh_callV C V hl.1 m_Mo_peek l_Mo_185 (c_Mo_pk l E _ _ a ad _ _ _ tx n (p9 + 1) X.1 hT h21 (by omega)) rfl X.1.1 gc_Mo ⟨by first | decide | omega | (dsimp only; omega), by first | decide | omega | (dsimp only; omega)⟩ ⟨by first | decide | omega | (dsimp only; omega), by first | decide | omega | (dsimp only; omega)⟩ (Nat.le_of_ble_eq_true rfl) rfl d_Mo_letters_126 (fun r z9 H locs hp9 V1 => ?_)
                obtain ⟨rfl, he9⟩ := hp9
                rw [he9] at V1
                have V := V1
                refine W.eq (g2 := F0 m 129 ls [.int (pek (sg tx n (p9 + 1))), .int (nI nv), .ref a]) rfl ?_
                have hpk : pek (sg tx n (p9 + 1)) = nI (sg tx n (p9 + 1)) := by unfold pek; rw [if_neg (by omega)]
                rw [hpk]
                refine gh_callV C V hl.1 m_Mo_addLetter l_Mo_210 (c_Mo_addLetter l E _ _ a ad _ _ _ nv (sg tx n (p9 + 1)) L X.1 hnv hsb.2.1 hsb.2.2.2 (by omega) (by omega)) rfl X.1.1 gc_Mo ⟨by first | decide | omega | (dsimp only; omega), by first | decide | omega | (dsimp only; omega)⟩ ⟨by first | decide | omega | (dsimp only; omega), by first | decide | omega | (dsimp only; omega)⟩ (Nat.le_of_ble_eq_true rfl) rfl d_Mo_letters_129 (fun r z9 H locs hp8 V1 => ?_)
                obtain ⟨rfl, J4, X2, hj4, hl4⟩ := hp8
                have hsb2 := hsb.add hj4 hl4
                have X := X.then X2
                have V := V1
                have hT : rT tx n (va_up S1 21 (nI (p9 + 1))) (va_up I1 3 (upd (I1 3) nv (nI (L.length + 1)))) := hT.keep rfl (va_up_n (by decide))
                refine W.eq (g2 := F0 m 132 ls []) rfl ?_
                refine lv_iinc (k := 1) (v := (nI L.length) + 1) hx hb d_Mo_letters_132 hl rfl (by rfl) (by decide) rfl (fun ls hl => ?_)
                have hl : lv_has ls 4 [(2, .int (nI (L.length + 1))), (3, .int 1), (0, .ref a), (1, .int (nI nv))] := by rw [nI_succ]; exact hl
                refine lv_aload_n hx hb d_Mo_letters_135 rfl (lv_at hl 2 rfl) ?_
                refine lv_dup hx hb d_Mo_letters_136 rfl ?_
                refine mo_getS (v := nI (p9 + 1)) C V X 21 (by decide) (by decide) (by first | rfl | exact hS21) f_Mo_179 rfl d_Mo_letters_137 ?_
                refine lv_iconst (v := 1) hx hb d_Mo_letters_140 (by decide) ?_
                refine gn_iadd (a := p9 + 1) (b := 1) hx hb d_Mo_letters_141 ?_
                refine mo_putS C V X 21 (by decide) (by decide) f_Mo_179 rfl rfl rfl d_Mo_letters_142 (fun f1 H locs V1 X1 => ?_)
                clear V X
                have V := V1
                have X := X1
                clear V1 X1
                have h21 : (va_up (va_up S1 21 (nI (p9 + 1))) 21 (nI ((p9 + 1) + 1))) 21 = nI ((p9 + 1) + 1) := va_up_s
                have hS21 := h21
                have hT : rT tx n (va_up (va_up S1 21 (nI (p9 + 1))) 21 (nI ((p9 + 1) + 1))) (va_up I1 3 (upd (I1 3) nv (nI (L.length + 1)))) := hT.keep (va_up_n (by decide)) rfl
                refine lv_goto (tgt := 41) hx hb d_Mo_letters_145 (by decide) ?_
                have hl : lv_has ls 4 [(2, .int (nI (L.length + 1))), (0, .ref a), (1, .int (nI nv))] := lv_sub hl [0, 2, 3] rfl
                have hl : lv_has ls 4 [(2, .int (nI (L ++ [nI (sg tx n (p9 + 1))]).length)), (0, .ref a), (1, .int (nI nv))] := by rw [List.length_append]; exact hl
                refine ih (p9 + 1 + 1) (L ++ [nI (sg tx n (p9 + 1))]) _ _ _ _ _ _ ls (by omega) (by omega) h21 (hLk.add (by omega) (by omega) (by omega)) ?_ hsb2 (fun k a1 a2 => by rw [va_up_n a2, va_up_n a2]; exact hS k a1 a2) (by rw [va_up_n (by decide), va_up_n (by decide)]; exact h11c) X V hl
                rw [← hrd]
                have hrd3 : rd_s tx n (m9 + 1) p9 L = rd_s tx n m9 (p9 + 1 + 1) (L ++ [nI (sg tx n (p9 + 1))]) := by
                  rw [rd_s_o, if_neg hnp, if_neg hq, if_pos hbs, if_neg hes]
                rw [hrd3]
          · by_cases h24 : 24 ≤ L.length
            · refine lv_aload_n hx hb d_Mo_letters_41 rfl (lv_at hl 1 rfl) ?_
              refine gh_callV C V hl.1 m_Mo_peek l_Mo_185 (c_Mo_pk l E _ _ a ad _ _ _ tx n p9 X.1 hT h21 (by omega)) rfl X.1.1 gc_Mo ⟨by first | decide | omega | (dsimp only; omega), by first | decide | omega | (dsimp only; omega)⟩ ⟨by first | decide | omega | (dsimp only; omega), by first | decide | omega | (dsimp only; omega)⟩ (Nat.le_of_ble_eq_true rfl) rfl d_Mo_letters_42 (fun r z9 H locs hp9 V1 => ?_)
              obtain ⟨rfl, he9⟩ := hp9
              rw [he9] at V1
              have V := V1
              refine W.eq (g2 := F0 m 45 ls [.int (pek (sg tx n p9))]) rfl ?_
              refine lv_bipush (v := 34) hx hb d_Mo_letters_45 (by decide) ?_
              refine lv_icmp_eq (tgt := 148) hx hb d_Mo_letters_47 (by decide) (fun c52 => absurd c52 (fun z => (fun z => by omega) ((pek_eq (k := 34) (by omega) (by omega) (by omega)).mp z))) (fun c52 => ?_)
              refine lv_aload_n hx hb d_Mo_letters_50 rfl (lv_at hl 1 rfl) ?_
              refine gh_callV C V hl.1 m_Mo_peek l_Mo_185 (c_Mo_pk l E _ _ a ad _ _ _ tx n p9 X.1 hT h21 (by omega)) rfl X.1.1 gc_Mo ⟨by first | decide | omega | (dsimp only; omega), by first | decide | omega | (dsimp only; omega)⟩ ⟨by first | decide | omega | (dsimp only; omega), by first | decide | omega | (dsimp only; omega)⟩ (Nat.le_of_ble_eq_true rfl) rfl d_Mo_letters_51 (fun r z9 H locs hp9 V1 => ?_)
              obtain ⟨rfl, he9⟩ := hp9
              rw [he9] at V1
              have V := V1
              refine W.eq (g2 := F0 m 54 ls [.int (pek (sg tx n p9))]) rfl ?_
              refine lv_bipush (v := 92) hx hb d_Mo_letters_54 (by decide) ?_
              refine lv_icmp_ne (tgt := 63) hx hb d_Mo_letters_56 (by decide) (fun c53 => ?_) (fun c53 => absurd c53 (fun z => (fun z => by omega) ((pek_eq (k := 92) (by omega) (by omega) (by omega)).mp z)))
              refine lv_iconst (v := 0) hx hb d_Mo_letters_63 (by decide) ?_
              refine lv_istore_n hx hb d_Mo_letters_64 rfl hl (by decide) rfl (fun ls hl => ?_)
              have hl : lv_has ls 4 [(3, .int 0), (2, .int (nI L.length)), (0, .ref a), (1, .int (nI nv))] := hl
              refine lv_iload_n hx hb d_Mo_letters_65 rfl (lv_at hl 0 rfl) ?_
              refine lv_if_eq (tgt := 79) hx hb d_Mo_letters_66 (by decide) (fun c54 => ?_) (fun c54 => absurd (by decide) c54)
              refine lv_iload_n hx hb d_Mo_letters_79 rfl (lv_at hl 0 rfl) ?_
              refine lv_if_eq (tgt := 101) hx hb d_Mo_letters_80 (by decide) (fun c55 => ?_) (fun c55 => absurd (by decide) c55)
              refine lv_aload_n hx hb d_Mo_letters_101 rfl (lv_at hl 2 rfl) ?_
              refine gh_callV C V hl.1 m_Mo_peek l_Mo_185 (c_Mo_pk l E _ _ a ad _ _ _ tx n p9 X.1 hT h21 (by omega)) rfl X.1.1 gc_Mo ⟨by first | decide | omega | (dsimp only; omega), by first | decide | omega | (dsimp only; omega)⟩ ⟨by first | decide | omega | (dsimp only; omega), by first | decide | omega | (dsimp only; omega)⟩ (Nat.le_of_ble_eq_true rfl) rfl d_Mo_letters_102 (fun r z9 H locs hp9 V1 => ?_)
              obtain ⟨rfl, he9⟩ := hp9
              rw [he9] at V1
              have V := V1
              refine W.eq (g2 := F0 m 105 ls [.int (pek (sg tx n p9))]) rfl ?_
              refine lv_if_lt (tgt := 114) hx hb d_Mo_letters_105 (by decide) (fun c56 => absurd c56 (fun z => absurd ((pek_0 (by omega)).mp z) (by omega))) (fun c56 => ?_)
              refine lv_iload_n hx hb d_Mo_letters_108 rfl (lv_at hl 1 rfl) ?_
              refine lv_bipush (v := 24) hx hb d_Mo_letters_109 (by decide) ?_
              refine lv_icmp_ne (tgt := 116) hx hb d_Mo_letters_111 (by decide) (fun c57 => absurd (by rw [show L.length = 24 by omega]; rfl) c57) (fun c57 => ?_)
              refine lv_iconst (v := 0) hx hb d_Mo_letters_114 (by decide) ?_
              refine gh_retz hAe C V hr (by first | rfl | decide) hlocks d_Mo_letters_115 (by first | decide | omega | (dsimp only; omega)) (by first | decide | omega | (dsimp only; omega)) ?_
              rw [← hrd]
              rw [rd_s_o, if_neg hnp, if_neg hq, if_neg hbs, if_pos h24]
              refine ⟨rfl, _, _, _, X, h21, ⟨fun z => (by cases z), fun _ X hz => (by cases hz)⟩⟩
            · refine lv_aload_n hx hb d_Mo_letters_41 rfl (lv_at hl 1 rfl) ?_
              refine gh_callV C V hl.1 m_Mo_peek l_Mo_185 (c_Mo_pk l E _ _ a ad _ _ _ tx n p9 X.1 hT h21 (by omega)) rfl X.1.1 gc_Mo ⟨by first | decide | omega | (dsimp only; omega), by first | decide | omega | (dsimp only; omega)⟩ ⟨by first | decide | omega | (dsimp only; omega), by first | decide | omega | (dsimp only; omega)⟩ (Nat.le_of_ble_eq_true rfl) rfl d_Mo_letters_42 (fun r z9 H locs hp9 V1 => ?_)
              obtain ⟨rfl, he9⟩ := hp9
              rw [he9] at V1
              have V := V1
              refine W.eq (g2 := F0 m 45 ls [.int (pek (sg tx n p9))]) rfl ?_
              refine lv_bipush (v := 34) hx hb d_Mo_letters_45 (by decide) ?_
              refine lv_icmp_eq (tgt := 148) hx hb d_Mo_letters_47 (by decide) (fun c58 => absurd c58 (fun z => (fun z => by omega) ((pek_eq (k := 34) (by omega) (by omega) (by omega)).mp z))) (fun c58 => ?_)
              refine lv_aload_n hx hb d_Mo_letters_50 rfl (lv_at hl 1 rfl) ?_
              refine gh_callV C V hl.1 m_Mo_peek l_Mo_185 (c_Mo_pk l E _ _ a ad _ _ _ tx n p9 X.1 hT h21 (by omega)) rfl X.1.1 gc_Mo ⟨by first | decide | omega | (dsimp only; omega), by first | decide | omega | (dsimp only; omega)⟩ ⟨by first | decide | omega | (dsimp only; omega), by first | decide | omega | (dsimp only; omega)⟩ (Nat.le_of_ble_eq_true rfl) rfl d_Mo_letters_51 (fun r z9 H locs hp9 V1 => ?_)
              obtain ⟨rfl, he9⟩ := hp9
              rw [he9] at V1
              have V := V1
              refine W.eq (g2 := F0 m 54 ls [.int (pek (sg tx n p9))]) rfl ?_
              refine lv_bipush (v := 92) hx hb d_Mo_letters_54 (by decide) ?_
              refine lv_icmp_ne (tgt := 63) hx hb d_Mo_letters_56 (by decide) (fun c59 => ?_) (fun c59 => absurd c59 (fun z => (fun z => by omega) ((pek_eq (k := 92) (by omega) (by omega) (by omega)).mp z)))
              refine lv_iconst (v := 0) hx hb d_Mo_letters_63 (by decide) ?_
              refine lv_istore_n hx hb d_Mo_letters_64 rfl hl (by decide) rfl (fun ls hl => ?_)
              have hl : lv_has ls 4 [(3, .int 0), (2, .int (nI L.length)), (0, .ref a), (1, .int (nI nv))] := hl
              refine lv_iload_n hx hb d_Mo_letters_65 rfl (lv_at hl 0 rfl) ?_
              refine lv_if_eq (tgt := 79) hx hb d_Mo_letters_66 (by decide) (fun c60 => ?_) (fun c60 => absurd (by decide) c60)
              refine lv_iload_n hx hb d_Mo_letters_79 rfl (lv_at hl 0 rfl) ?_
              refine lv_if_eq (tgt := 101) hx hb d_Mo_letters_80 (by decide) (fun c61 => ?_) (fun c61 => absurd (by decide) c61)
              refine lv_aload_n hx hb d_Mo_letters_101 rfl (lv_at hl 2 rfl) ?_
              refine gh_callV C V hl.1 m_Mo_peek l_Mo_185 (c_Mo_pk l E _ _ a ad _ _ _ tx n p9 X.1 hT h21 (by omega)) rfl X.1.1 gc_Mo ⟨by first | decide | omega | (dsimp only; omega), by first | decide | omega | (dsimp only; omega)⟩ ⟨by first | decide | omega | (dsimp only; omega), by first | decide | omega | (dsimp only; omega)⟩ (Nat.le_of_ble_eq_true rfl) rfl d_Mo_letters_102 (fun r z9 H locs hp9 V1 => ?_)
              obtain ⟨rfl, he9⟩ := hp9
              rw [he9] at V1
              have V := V1
              refine W.eq (g2 := F0 m 105 ls [.int (pek (sg tx n p9))]) rfl ?_
              refine lv_if_lt (tgt := 114) hx hb d_Mo_letters_105 (by decide) (fun c62 => absurd c62 (fun z => absurd ((pek_0 (by omega)).mp z) (by omega))) (fun c62 => ?_)
              refine lv_iload_n hx hb d_Mo_letters_108 rfl (lv_at hl 1 rfl) ?_
              refine lv_bipush (v := 24) hx hb d_Mo_letters_109 (by decide) ?_
              refine lv_icmp_ne (tgt := 116) hx hb d_Mo_letters_111 (by decide) (fun c63 => ?_) (fun c63 => absurd c63 (fun z => absurd ((nI_eq (b := 24) (by omega) (by decide)).mp z) (by omega)))
              refine lv_aload_n hx hb d_Mo_letters_116 rfl (lv_at hl 2 rfl) ?_
              refine mo_getS (v := 1) C V X 27 (by decide) (by decide) (by first | rfl | exact hS27) f_Mo_206 rfl d_Mo_letters_117 ?_
              refine lv_if_eq (tgt := 132) hx hb d_Mo_letters_120 (by decide) (fun c64 => absurd c64 (by decide)) (fun c64 => ?_)
              refine lv_aload_n hx hb d_Mo_letters_123 rfl (lv_at hl 2 rfl) ?_
              refine lv_iload_n hx hb d_Mo_letters_124 rfl (lv_at hl 3 rfl) ?_
              refine lv_aload_n hx hb d_Mo_letters_125 rfl (lv_at hl 2 rfl) ?_
              refine gh_callV C V hl.1 m_Mo_peek l_Mo_185 (c_Mo_pk l E _ _ a ad _ _ _ tx n p9 X.1 hT h21 (by omega)) rfl X.1.1 gc_Mo ⟨by first | decide | omega | (dsimp only; omega), by first | decide | omega | (dsimp only; omega)⟩ ⟨by first | decide | omega | (dsimp only; omega), by first | decide | omega | (dsimp only; omega)⟩ (Nat.le_of_ble_eq_true rfl) rfl d_Mo_letters_126 (fun r z9 H locs hp9 V1 => ?_)
              obtain ⟨rfl, he9⟩ := hp9
              rw [he9] at V1
              have V := V1
              refine W.eq (g2 := F0 m 129 ls [.int (pek (sg tx n p9)), .int (nI nv), .ref a]) rfl ?_
              have hpk : pek (sg tx n (p9)) = nI (sg tx n (p9)) := by unfold pek; rw [if_neg (by omega)]
              rw [hpk]
              refine gh_callV C V hl.1 m_Mo_addLetter l_Mo_210 (c_Mo_addLetter l E _ _ a ad _ _ _ nv (sg tx n (p9)) L X.1 hnv hsb.2.1 hsb.2.2.2 (by omega) (by omega)) rfl X.1.1 gc_Mo ⟨by first | decide | omega | (dsimp only; omega), by first | decide | omega | (dsimp only; omega)⟩ ⟨by first | decide | omega | (dsimp only; omega), by first | decide | omega | (dsimp only; omega)⟩ (Nat.le_of_ble_eq_true rfl) rfl d_Mo_letters_129 (fun r z9 H locs hp8 V1 => ?_)
              obtain ⟨rfl, J4, X2, hj4, hl4⟩ := hp8
              have hsb2 := hsb.add hj4 hl4
              have X := X.then X2
              have V := V1
              have hT : rT tx n S1 (va_up I1 3 (upd (I1 3) nv (nI (L.length + 1)))) := hT.keep rfl (va_up_n (by decide))
              refine W.eq (g2 := F0 m 132 ls []) rfl ?_
              refine lv_iinc (k := 1) (v := (nI L.length) + 1) hx hb d_Mo_letters_132 hl rfl (by rfl) (by decide) rfl (fun ls hl => ?_)
              have hl : lv_has ls 4 [(2, .int (nI (L.length + 1))), (3, .int 0), (0, .ref a), (1, .int (nI nv))] := by rw [nI_succ]; exact hl
              refine lv_aload_n hx hb d_Mo_letters_135 rfl (lv_at hl 2 rfl) ?_
              refine lv_dup hx hb d_Mo_letters_136 rfl ?_
              refine mo_getS (v := nI p9) C V X 21 (by decide) (by decide) (by first | rfl | exact hS21) f_Mo_179 rfl d_Mo_letters_137 ?_
              refine lv_iconst (v := 1) hx hb d_Mo_letters_140 (by decide) ?_
              refine gn_iadd (a := p9) (b := 1) hx hb d_Mo_letters_141 ?_
              refine mo_putS C V X 21 (by decide) (by decide) f_Mo_179 rfl rfl rfl d_Mo_letters_142 (fun f1 H locs V1 X1 => ?_)
              clear V X
              have V := V1
              have X := X1
              clear V1 X1
              have h21 : (va_up S1 21 (nI (p9 + 1))) 21 = nI (p9 + 1) := va_up_s
              have hS21 := h21
              have hT : rT tx n (va_up S1 21 (nI (p9 + 1))) (va_up I1 3 (upd (I1 3) nv (nI (L.length + 1)))) := hT.keep (va_up_n (by decide)) rfl
              refine lv_goto (tgt := 41) hx hb d_Mo_letters_145 (by decide) ?_
              have hl : lv_has ls 4 [(2, .int (nI (L.length + 1))), (0, .ref a), (1, .int (nI nv))] := lv_sub hl [0, 2, 3] rfl
              have hl : lv_has ls 4 [(2, .int (nI (L ++ [nI (sg tx n (p9))]).length)), (0, .ref a), (1, .int (nI nv))] := by rw [List.length_append]; exact hl
              refine ih (p9 + 1) (L ++ [nI (sg tx n (p9))]) _ _ _ _ _ _ ls (by omega) (by omega) h21 (hLk.add (by omega) (by omega) (by omega)) ?_ hsb2 (fun k a1 a2 => by rw [va_up_n a2]; exact hS k a1 a2) (by rw [va_up_n (by decide)]; exact h11c) X V hl
              rw [← hrd]
              have hrd3 : rd_s tx n (m9 + 1) p9 L = rd_s tx n m9 (p9 + 1) (L ++ [nI (sg tx n (p9))]) := by
                rw [rd_s_o, if_neg hnp, if_neg hq, if_neg hbs, if_neg h24, htx]
              rw [hrd3]
  have hS3 := hmk.1
  exact loop n (pl + 1) [] S3 I3 J3 _ _ _ ls (by omega) (by omega) (by rw [hS3, va_up_n (by decide), va_up_s]) ⟨Nat.zero_le _, fun j hj => absurd hj (Nat.not_lt_zero j)⟩ rfl ⟨fun _ _ _ => rfl, hmk.2.2.1.2.1, fun _ _ _ => rfl, ml_0 hmk.2.2.2.2.2.1 hmk.2.2.2.2.2.2.1 hmk.2.2.2.2.2.2.2⟩ (fun k a1 a2 => by rw [hS3, va_up_n a1, va_up_n a2]) (by rw [hS3, va_up_s]) X V hl
