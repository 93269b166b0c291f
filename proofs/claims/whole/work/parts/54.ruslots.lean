/-! askFirst and askSecond. Printed by wip/whole/gen_ru2.py. -/
theorem d_Ru_ask_0 : decode b_Ru_ask 0 = .ok (.aload_n 1, 1) := by decide +kernel
theorem d_Ru_ask_1 : decode b_Ru_ask 1 = .ok (.ifnonnull 5, 3) := by decide +kernel
theorem d_Ru_ask_4 : decode b_Ru_ask 4 = .ok (.iconst 2, 1) := by decide +kernel
theorem d_Ru_ask_5 : decode b_Ru_ask 5 = .ok (.ireturn, 1) := by decide +kernel
theorem d_Ru_ask_6 : decode b_Ru_ask 6 = .ok (.aload_n 0, 1) := by decide +kernel
theorem d_Ru_ask_7 : decode b_Ru_ask 7 = .ok (.getfield 44, 3) := by decide +kernel
theorem d_Ru_ask_10 : decode b_Ru_ask 10 = .ok (.aload_n 1, 1) := by decide +kernel
theorem d_Ru_ask_11 : decode b_Ru_ask 11 = .ok (.getfield 75, 3) := by decide +kernel
theorem d_Ru_ask_14 : decode b_Ru_ask 14 = .ok (.invokevirtual 100, 3) := by decide +kernel
theorem d_Ru_ask_17 : decode b_Ru_ask 17 = .ok (.tableswitch 173 3 26 #[111, 117, 173, 173, 173, 161, 123, 129, 161, 135, 141, 147, 173, 153, 159, 173, 173, 173, 173, 167, 167, 167, 167, 167], 111) := by decide +kernel
theorem d_Ru_ask_128 : decode b_Ru_ask 128 = .ok (.aload_n 0, 1) := by decide +kernel
theorem d_Ru_ask_129 : decode b_Ru_ask 129 = .ok (.aload_n 1, 1) := by decide +kernel
theorem d_Ru_ask_130 : decode b_Ru_ask 130 = .ok (.invokevirtual 104, 3) := by decide +kernel
theorem d_Ru_ask_133 : decode b_Ru_ask 133 = .ok (.ireturn, 1) := by decide +kernel
theorem d_Ru_ask_134 : decode b_Ru_ask 134 = .ok (.aload_n 0, 1) := by decide +kernel
theorem d_Ru_ask_135 : decode b_Ru_ask 135 = .ok (.aload_n 1, 1) := by decide +kernel
theorem d_Ru_ask_136 : decode b_Ru_ask 136 = .ok (.invokevirtual 107, 3) := by decide +kernel
theorem d_Ru_ask_139 : decode b_Ru_ask 139 = .ok (.ireturn, 1) := by decide +kernel
theorem d_Ru_ask_140 : decode b_Ru_ask 140 = .ok (.aload_n 0, 1) := by decide +kernel
theorem d_Ru_ask_141 : decode b_Ru_ask 141 = .ok (.aload_n 1, 1) := by decide +kernel
theorem d_Ru_ask_142 : decode b_Ru_ask 142 = .ok (.invokevirtual 110, 3) := by decide +kernel
theorem d_Ru_ask_145 : decode b_Ru_ask 145 = .ok (.ireturn, 1) := by decide +kernel
theorem d_Ru_ask_146 : decode b_Ru_ask 146 = .ok (.aload_n 0, 1) := by decide +kernel
theorem d_Ru_ask_147 : decode b_Ru_ask 147 = .ok (.aload_n 1, 1) := by decide +kernel
theorem d_Ru_ask_148 : decode b_Ru_ask 148 = .ok (.invokevirtual 113, 3) := by decide +kernel
theorem d_Ru_ask_151 : decode b_Ru_ask 151 = .ok (.ireturn, 1) := by decide +kernel
theorem d_Ru_ask_152 : decode b_Ru_ask 152 = .ok (.aload_n 0, 1) := by decide +kernel
theorem d_Ru_ask_153 : decode b_Ru_ask 153 = .ok (.aload_n 1, 1) := by decide +kernel
theorem d_Ru_ask_154 : decode b_Ru_ask 154 = .ok (.invokevirtual 116, 3) := by decide +kernel
theorem d_Ru_ask_157 : decode b_Ru_ask 157 = .ok (.ireturn, 1) := by decide +kernel
theorem d_Ru_ask_158 : decode b_Ru_ask 158 = .ok (.aload_n 0, 1) := by decide +kernel
theorem d_Ru_ask_159 : decode b_Ru_ask 159 = .ok (.aload_n 1, 1) := by decide +kernel
theorem d_Ru_ask_160 : decode b_Ru_ask 160 = .ok (.invokevirtual 119, 3) := by decide +kernel
theorem d_Ru_ask_163 : decode b_Ru_ask 163 = .ok (.ireturn, 1) := by decide +kernel
theorem d_Ru_ask_164 : decode b_Ru_ask 164 = .ok (.aload_n 0, 1) := by decide +kernel
theorem d_Ru_ask_165 : decode b_Ru_ask 165 = .ok (.aload_n 1, 1) := by decide +kernel
theorem d_Ru_ask_166 : decode b_Ru_ask 166 = .ok (.invokevirtual 122, 3) := by decide +kernel
theorem d_Ru_ask_169 : decode b_Ru_ask 169 = .ok (.ireturn, 1) := by decide +kernel
theorem d_Ru_ask_170 : decode b_Ru_ask 170 = .ok (.aload_n 0, 1) := by decide +kernel
theorem d_Ru_ask_171 : decode b_Ru_ask 171 = .ok (.aload_n 1, 1) := by decide +kernel
theorem d_Ru_ask_172 : decode b_Ru_ask 172 = .ok (.invokevirtual 125, 3) := by decide +kernel
theorem d_Ru_ask_175 : decode b_Ru_ask 175 = .ok (.ireturn, 1) := by decide +kernel
theorem d_Ru_ask_176 : decode b_Ru_ask 176 = .ok (.iconst 0, 1) := by decide +kernel
theorem d_Ru_ask_177 : decode b_Ru_ask 177 = .ok (.ireturn, 1) := by decide +kernel
theorem d_Ru_ask_178 : decode b_Ru_ask 178 = .ok (.aload_n 0, 1) := by decide +kernel
theorem d_Ru_ask_179 : decode b_Ru_ask 179 = .ok (.aload_n 1, 1) := by decide +kernel
theorem d_Ru_ask_180 : decode b_Ru_ask 180 = .ok (.invokevirtual 128, 3) := by decide +kernel
theorem d_Ru_ask_183 : decode b_Ru_ask 183 = .ok (.ireturn, 1) := by decide +kernel
theorem d_Ru_ask_184 : decode b_Ru_ask 184 = .ok (.aload_n 0, 1) := by decide +kernel
theorem d_Ru_ask_185 : decode b_Ru_ask 185 = .ok (.aload_n 1, 1) := by decide +kernel
theorem d_Ru_ask_186 : decode b_Ru_ask 186 = .ok (.invokevirtual 131, 3) := by decide +kernel
theorem d_Ru_ask_189 : decode b_Ru_ask 189 = .ok (.ireturn, 1) := by decide +kernel
theorem d_Ru_ask_190 : decode b_Ru_ask 190 = .ok (.aload_n 0, 1) := by decide +kernel
theorem d_Ru_ask_191 : decode b_Ru_ask 191 = .ok (.aload_n 1, 1) := by decide +kernel
theorem d_Ru_ask_192 : decode b_Ru_ask 192 = .ok (.invokevirtual 134, 3) := by decide +kernel
theorem d_Ru_ask_195 : decode b_Ru_ask 195 = .ok (.ireturn, 1) := by decide +kernel
set_option maxHeartbeats 4000000 in
set_option maxRecDepth 100000 in
theorem c_Ru_ask0 (l : Launch) (E : gh_E) (sz : Nat) (f : gh_F) (a : Nat) : gh_M l y_Ru_ask b_Ru_ask 2 (some .int) E sz [.ref a, .null] f { frames := 1, cells := 0, slots := 0, locals := 12 } (fun r g => r = some (.int 2) ∧ g = f) := by
  refine gh_open (by decide) (Nat.le_of_ble_eq_true rfl) ?_
  intro p e s m args below meth c A ls hAe C V hr hlocks hname hl
  have hx := C.1
  have hb := C.2.1
  have hl : lv_has ls 2 [(0, .ref a), (1, .null)] := hl
  refine lv_aload_nN hx hb d_Ru_ask_0 rfl (lv_at hl 1 rfl) ?_
  refine lv_ifnonnullN hx hb d_Ru_ask_1 ?_
  refine lv_iconst (v := 2) hx hb d_Ru_ask_4 (by decide) ?_
  refine gh_reti hAe C V hr hlocks d_Ru_ask_5 (by first | decide | omega | (dsimp only; omega)) (by first | decide | omega | (dsimp only; omega)) ?_
  exact ⟨rfl, rfl⟩
theorem d_Ru_askFirst_0 : decode b_Ru_askFirst 0 = .ok (.aload_n 1, 1) := by decide +kernel
theorem d_Ru_askFirst_1 : decode b_Ru_askFirst 1 = .ok (.getfield 87, 3) := by decide +kernel
theorem d_Ru_askFirst_4 : decode b_Ru_askFirst 4 = .ok (.ifnonnull 37, 3) := by decide +kernel
theorem d_Ru_askFirst_7 : decode b_Ru_askFirst 7 = .ok (.aload_n 1, 1) := by decide +kernel
theorem d_Ru_askFirst_8 : decode b_Ru_askFirst 8 = .ok (.aload_n 0, 1) := by decide +kernel
theorem d_Ru_askFirst_9 : decode b_Ru_askFirst 9 = .ok (.aload_n 0, 1) := by decide +kernel
theorem d_Ru_askFirst_10 : decode b_Ru_askFirst 10 = .ok (.getfield 44, 3) := by decide +kernel
theorem d_Ru_askFirst_13 : decode b_Ru_askFirst 13 = .ok (.aload_n 1, 1) := by decide +kernel
theorem d_Ru_askFirst_14 : decode b_Ru_askFirst 14 = .ok (.getfield 75, 3) := by decide +kernel
theorem d_Ru_askFirst_17 : decode b_Ru_askFirst 17 = .ok (.iconst 0, 1) := by decide +kernel
theorem d_Ru_askFirst_18 : decode b_Ru_askFirst 18 = .ok (.invokevirtual 137, 3) := by decide +kernel
theorem d_Ru_askFirst_21 : decode b_Ru_askFirst 21 = .ok (.aload_n 1, 1) := by decide +kernel
theorem d_Ru_askFirst_22 : decode b_Ru_askFirst 22 = .ok (.getfield 78, 3) := by decide +kernel
theorem d_Ru_askFirst_25 : decode b_Ru_askFirst 25 = .ok (.iconst 1, 1) := by decide +kernel
theorem d_Ru_askFirst_26 : decode b_Ru_askFirst 26 = .ok (.iadd, 1) := by decide +kernel
theorem d_Ru_askFirst_27 : decode b_Ru_askFirst 27 = .ok (.aload_n 1, 1) := by decide +kernel
theorem d_Ru_askFirst_28 : decode b_Ru_askFirst 28 = .ok (.getfield 81, 3) := by decide +kernel
theorem d_Ru_askFirst_31 : decode b_Ru_askFirst 31 = .ok (.aload_n 1, 1) := by decide +kernel
theorem d_Ru_askFirst_32 : decode b_Ru_askFirst 32 = .ok (.getfield 84, 3) := by decide +kernel
theorem d_Ru_askFirst_35 : decode b_Ru_askFirst 35 = .ok (.invokevirtual 60, 3) := by decide +kernel
theorem d_Ru_askFirst_38 : decode b_Ru_askFirst 38 = .ok (.putfield 87, 3) := by decide +kernel
theorem d_Ru_askFirst_41 : decode b_Ru_askFirst 41 = .ok (.aload_n 0, 1) := by decide +kernel
theorem d_Ru_askFirst_42 : decode b_Ru_askFirst 42 = .ok (.aload_n 1, 1) := by decide +kernel
theorem d_Ru_askFirst_43 : decode b_Ru_askFirst 43 = .ok (.getfield 87, 3) := by decide +kernel
theorem d_Ru_askFirst_46 : decode b_Ru_askFirst 46 = .ok (.invokevirtual 64, 3) := by decide +kernel
theorem d_Ru_askFirst_49 : decode b_Ru_askFirst 49 = .ok (.ireturn, 1) := by decide +kernel
set_option maxHeartbeats 4000000 in
set_option maxRecDepth 100000 in
theorem c_Ru_askFirst (l : Launch) (E : gh_E) (sz : Nat) (f : gh_F) (ρ Z : Nat → Nat) (q0 N : Nat) (cb bg : Nat → Nat) (φ b : Nat) (s0 e0 : Int32) (n k pt it el : Nat) (fi : Option Nat) (y5 y6 y7 y8 : Value) (X Y : vt) (T : sr) (F : Nat → Prop) (hR : rn_R E ρ Z f q0 N cb bg φ b s0 e0) (hφb : φ + b ≤ 250) (hn : n ≤ 19) (hkb : k < b) (hpt : pt < 60) (hs : f (Z (1000 + k)) = some (.inr (5, [.int (nI pt), .int (nI (19 - n)), .ref it, .ref el, ro Z fi, y5, y6, y7, y8]))) (hit : cw E (rP ρ) f it X) (hel : cw E (rP ρ) f el Y) (hS : rk_S E ρ Z cb bg N f φ b n k fi (bg (pt * 3 + 0)) X Y T F) (IH : rk_A l E ρ Z q0 N cb bg n) : gh_M l y_Ru_askFirst b_Ru_askFirst 2 (some .int) E sz [.ref (Z 1), .ref (Z (1000 + k))] f { frames := 22 + 6 * n, cells := 3 * min (sr_c T) φ, slots := 39 * min (sr_c T) φ, locals := 800 + 200 * n } (fun r g => ∃ φ1 b1 fo, rn_R E ρ Z g q0 N cb bg φ1 b1 s0 e0 ∧ (b ≤ b1 ∧ b1 + φ1 ≤ b + φ) ∧ gh_fr f g (rn_M ρ (20 - n) b (fun i => F i ∨ i = k)) ∧ g (Z (1000 + k)) = some (.inr (5, [.int (nI pt), .int (nI (19 - n)), .ref it, .ref el, ro Z fo, y5, y6, y7, y8])) ∧ rk_P φ T r φ1 (fun x R => ∃ j F1, fo = some j ∧ rs E ρ Z cb bg N g φ1 n 0 j x R F1 ∧ ∀ i, F1 i → F i ∨ (b ≤ i ∧ i < b1))) := by
  refine gh_open (by decide) (Nat.le_of_ble_eq_true rfl) ?_
  intro p e s m args below meth c A ls hAe C V hr hlocks hname hl
  have hx := C.1
  have hb := C.2.1
  have hl : lv_has ls 2 [(0, .ref (Z 1)), (1, .ref (Z (1000 + k)))] := hl
  rcases hS with ⟨ho, hT, hok, hF0⟩ | ⟨j, v, ho, hrs, hFb, hFk⟩
  · subst ho
    have hs : f (Z (1000 + k)) = some (.inr (5, [.int (nI pt), .int (nI (19 - n)), .ref it, .ref el, .null, y5, y6, y7, y8])) := hs
    have hcT : sr_c T = 1 + sr_c (sr_B cb bg n (bg (pt * 3 + 0)) X Y) := by rw [hT, sr_c_add]
    have hn1 : 1 ≤ n := by obtain ⟨n1, -, z, -⟩ := hok; omega
    have hRc := hR
    obtain ⟨h1R, ⟨hz, ⟨p206, p207⟩, ⟨gS, hgS, hgS2⟩, ⟨gG, hgG, hgG2⟩, hVR, hqR, hcdR, hbaR, hN60, hq0⟩, ⟨hgaV, hgaR⟩, hSR, hnon⟩ := hRc
    obtain ⟨pvsR, hvsR, hnuR, hnoR, hyeR, -⟩ := id hVR
    have hfr : gh_fr f f (rn_M ρ (20 - n) b (fun i => F i ∨ i = k)) := gh_fr.rf
    refine lv_aload_n hx hb d_Ru_askFirst_0 rfl (lv_at hl 1 rfl) ?_
    refine gh_get C V hs gc_St gi_St 4 (by decide) f_Ru_87 rfl rfl d_Ru_askFirst_1 ?_
    refine lv_ifnonnullN hx hb d_Ru_askFirst_4 ?_
    refine lv_aload_n hx hb d_Ru_askFirst_7 rfl (lv_at hl 1 rfl) ?_
    refine lv_aload_n hx hb d_Ru_askFirst_8 rfl (lv_at hl 0 rfl) ?_
    refine lv_aload_n hx hb d_Ru_askFirst_9 rfl (lv_at hl 0 rfl) ?_
    refine gh_get C V h1R gc_Ru gi_Ru 4 (by decide) f_Ru_44 rfl rfl d_Ru_askFirst_10 ?_
    refine lv_aload_n hx hb d_Ru_askFirst_13 rfl (lv_at hl 1 rfl) ?_
    refine gh_get C V hs gc_St gi_St 0 (by decide) f_Ru_75 rfl rfl d_Ru_askFirst_14 ?_
    refine lv_iconst (v := 0) hx hb d_Ru_askFirst_17 (by decide) ?_
    refine gh_callV C V hl.1 m_Qu_placeIn l_Ru_137 (c_Qu_placeIn l E _ f (Z q0) (Z (q0 + 1)) (Z (q0 + 2)) N cb bg pt 0 hN60 hqR hcdR hbaR hpt (by decide)) rfl hqR gc_Qu ⟨by first | decide | omega | (dsimp only; omega), by first | decide | omega | (dsimp only; omega)⟩ ⟨by first | decide | omega | (dsimp only; omega), by first | decide | omega | (dsimp only; omega)⟩ (Nat.le_of_ble_eq_true rfl) rfl d_Ru_askFirst_18 (fun r z9 H locs hp V => ?_)
    obtain ⟨rfl, he9⟩ := hp
    rw [he9] at V
    refine W.eq (g2 := F0 m 21 ls [.int (nI (bg (pt * 3 + 0))), .ref (Z 1), .ref (Z (1000 + k))]) rfl ?_
    refine lv_aload_n hx hb d_Ru_askFirst_21 rfl (lv_at hl 1 rfl) ?_
    refine gh_get C V hs gc_St gi_St 1 (by decide) f_Ru_78 rfl rfl d_Ru_askFirst_22 ?_
    refine lv_iconst (v := 1) hx hb d_Ru_askFirst_25 (by decide) ?_
    refine gn_iadd (a := 19 - n) (b := 1) hx hb d_Ru_askFirst_26 ?_
    rw [show 19 - n + 1 = 20 - n by omega]
    refine lv_aload_n hx hb d_Ru_askFirst_27 rfl (lv_at hl 1 rfl) ?_
    refine gh_get C V hs gc_St gi_St 2 (by decide) f_Ru_81 rfl rfl d_Ru_askFirst_28 ?_
    refine lv_aload_n hx hb d_Ru_askFirst_31 rfl (lv_at hl 1 rfl) ?_
    refine gh_get C V hs gc_St gi_St 3 (by decide) f_Ru_84 rfl rfl d_Ru_askFirst_32 ?_
    refine gh_callV C V hl.1 m_Ru_begin l_Ru_60 (c_Ru_begin l E _ f ρ Z q0 N cb bg φ b s0 e0 (bg (pt * 3 + 0)) (20 - n) it el hR hφb (by omega)) rfl h1R gc_Ru ⟨by first | decide | omega | (dsimp only; omega), by first | decide | omega | (dsimp only; omega)⟩ ⟨by first | decide | omega | (dsimp only; omega), by first | decide | omega | (dsimp only; omega)⟩ (Nat.le_of_ble_eq_true rfl) rfl d_Ru_askFirst_35 (fun r g9 H locs hp V => ?_)
    by_cases hφ0 : φ = 0
    · obtain ⟨rfl, he9⟩ := hp.1 hφ0
      rw [he9] at V
      refine W.eq (g2 := F0 m 38 ls [.null, .ref (Z (1000 + k))]) rfl ?_
      refine gh_put C V hs gc_St gi_St ty_St nm_St 4 (by decide) f_Ru_87 rfl (by first | rfl | decide) (by first | rfl | decide) (Nat.le_of_ble_eq_true rfl) d_Ru_askFirst_38 (fun H locs V => ?_)
      obtain ⟨f1, hff1⟩ : ∃ z9 : gh_F, z9 = gh_u f (Z (1000 + k)) (.inr (5, [.int (nI pt), .int (nI (19 - n)), .ref it, .ref el, .null, y5, y6, y7, y8])) := ⟨_, rfl⟩
      have V : gh_V E A f1 s H locs := by rw [hff1]; exact V
      have hR : rn_R E ρ Z f1 q0 N cb bg φ b s0 e0 := by rw [hff1]; exact hR.step (k := k) (by omega)
      have hfr : gh_fr f f1 (rn_M ρ (20 - n) b (fun i => F i ∨ i = k)) := by rw [hff1]; exact hfr.put (Or.inl (Or.inr (Or.inr (Or.inr (Or.inr ⟨k, Or.inr rfl, hz _ (by unfold rU; omega)⟩)))))
      have h_Z__1000___k__f1 : f1 (Z (1000 + k)) = some (.inr (5, [.int (nI pt), .int (nI (19 - n)), .ref it, .ref el, .null, y5, y6, y7, y8])) := by rw [hff1, gh_us]
      have hRc := hR
      obtain ⟨h1R, ⟨hz, ⟨p206, p207⟩, ⟨gS, hgS, hgS2⟩, ⟨gG, hgG, hgG2⟩, hVR, hqR, hcdR, hbaR, hN60, hq0⟩, ⟨hgaV, hgaR⟩, hSR, hnon⟩ := hRc
      obtain ⟨pvsR, hvsR, hnuR, hnoR, hyeR, -⟩ := id hVR
      refine lv_aload_n hx hb d_Ru_askFirst_41 rfl (lv_at hl 0 rfl) ?_
      refine lv_aload_n hx hb d_Ru_askFirst_42 rfl (lv_at hl 1 rfl) ?_
      refine gh_get C V h_Z__1000___k__f1 gc_St gi_St 4 (by decide) f_Ru_87 rfl rfl d_Ru_askFirst_43 ?_
      refine gh_callV C V hl.1 m_Ru_ask l_Ru_64 (c_Ru_ask0 l E _ f1 (Z 1)) rfl h1R gc_Ru ⟨by first | decide | omega | (dsimp only; omega), by first | decide | omega | (dsimp only; omega)⟩ ⟨by first | decide | omega | (dsimp only; omega), by first | decide | omega | (dsimp only; omega)⟩ (Nat.le_of_ble_eq_true rfl) rfl d_Ru_askFirst_46 (fun r z9 H locs hp V => ?_)
      obtain ⟨rfl, he9⟩ := hp
      rw [he9] at V
      refine W.eq (g2 := F0 m 49 ls [.int 2]) rfl ?_
      refine gh_reti hAe C V hr hlocks d_Ru_askFirst_49 (by first | decide | omega | (dsimp only; omega)) (by first | decide | omega | (dsimp only; omega)) ?_
      exact ⟨φ, b, none, hR, ⟨Nat.le_refl _, Nat.le_refl _⟩, hfr, h_Z__1000___k__f1, Or.inl ⟨by omega, rfl, hφ0⟩⟩
    · obtain ⟨rfl, hR, hsb, hfr9⟩ := hp.2 (by omega)
      have hs := hfr9.at hs (fun z => by have e9 := hz (1000 + k) (by unfold rU; omega); rcases z with z | z <;> omega)
      have hfr : gh_fr f g9 (rn_M ρ (20 - n) b (fun i => F i ∨ i = k)) := hfr9.wide (fun a z => by rcases z with z | z; exact Or.inl z; exact Or.inr (Or.inr (Or.inr (Or.inl (by omega)))))
      refine W.eq (g2 := F0 m 38 ls [.ref (Z (1000 + b)), .ref (Z (1000 + k))]) rfl ?_
      have hRc := hR
      obtain ⟨h1R, ⟨hz, ⟨p206, p207⟩, ⟨gS, hgS, hgS2⟩, ⟨gG, hgG, hgG2⟩, hVR, hqR, hcdR, hbaR, hN60, hq0⟩, ⟨hgaV, hgaR⟩, hSR, hnon⟩ := hRc
      obtain ⟨pvsR, hvsR, hnuR, hnoR, hyeR, -⟩ := id hVR
      refine gh_put C V hs gc_St gi_St ty_St nm_St 4 (by decide) f_Ru_87 rfl (by first | rfl | decide) (by first | rfl | decide) (Nat.le_of_ble_eq_true rfl) d_Ru_askFirst_38 (fun H locs V => ?_)
      obtain ⟨f3, hff3⟩ : ∃ z9 : gh_F, z9 = gh_u g9 (Z (1000 + k)) (.inr (5, [.int (nI pt), .int (nI (19 - n)), .ref it, .ref el, .ref (Z (1000 + b)), y5, y6, y7, y8])) := ⟨_, rfl⟩
      have V : gh_V E A f3 s H locs := by rw [hff3]; exact V
      have hR : rn_R E ρ Z f3 q0 N cb bg (φ - 1) (b + 1) s0 e0 := by rw [hff3]; exact hR.step (k := k) (by omega)
      have hfr : gh_fr f f3 (rn_M ρ (20 - n) b (fun i => F i ∨ i = k)) := by rw [hff3]; exact hfr.put (Or.inl (Or.inr (Or.inr (Or.inr (Or.inr ⟨k, Or.inr rfl, hz _ (by unfold rU; omega)⟩)))))
      have h_Z__1000___b__f3 : f3 (Z (1000 + b)) = some (.inr (5, [.int (nI (bg (pt * 3 + 0))), .int (nI (20 - n)), .ref it, .ref el, .null, .null, .int 0, .int 0, .ref (Z 201)])) := by rw [hff3, gh_un (rz_ne hz (by unfold rU; omega) (by unfold rU; omega) (by omega))]; exact hsb
      have h_Z__1000___k__f3 : f3 (Z (1000 + k)) = some (.inr (5, [.int (nI pt), .int (nI (19 - n)), .ref it, .ref el, .ref (Z (1000 + b)), y5, y6, y7, y8])) := by rw [hff3, gh_us]
      have hRc := hR
      obtain ⟨h1R, ⟨hz, ⟨p206, p207⟩, ⟨gS, hgS, hgS2⟩, ⟨gG, hgG, hgG2⟩, hVR, hqR, hcdR, hbaR, hN60, hq0⟩, ⟨hgaV, hgaR⟩, hSR, hnon⟩ := hRc
      obtain ⟨pvsR, hvsR, hnuR, hnoR, hyeR, -⟩ := id hVR
      refine lv_aload_n hx hb d_Ru_askFirst_41 rfl (lv_at hl 0 rfl) ?_
      refine lv_aload_n hx hb d_Ru_askFirst_42 rfl (lv_at hl 1 rfl) ?_
      refine gh_get C V h_Z__1000___k__f3 gc_St gi_St 4 (by decide) f_Ru_87 rfl rfl d_Ru_askFirst_43 ?_
      have hrs := rs_new (Y := Y) (φ := φ - 1) hok (by omega) (by omega) h_Z__1000___b__f3 (hit.keep hfr rn_M.P) (hel.keep hfr rn_M.P) hnuR
      refine gh_callV C V hl.1 m_Ru_ask l_Ru_64 (IH _ f3 (φ - 1) (b + 1) s0 e0 1 b (vt_0 0) (sr_B cb bg n (bg (pt * 3 + 0)) X Y) (fun i => i = b) hR (by omega) (fun j hj => by omega) hrs) rfl h1R gc_Ru ⟨by first | decide | omega | (dsimp only; omega), by first | decide | omega | (dsimp only; omega)⟩ ⟨by first | decide | omega | (dsimp only; omega), by first | decide | omega | (dsimp only; omega)⟩ (Nat.le_of_ble_eq_true rfl) rfl d_Ru_askFirst_46 (fun r f4 H locs hp V => ?_)
      obtain ⟨φ1, b1, hR9, ⟨hb1, hb2⟩, hfr9, hP9, -⟩ := hp
      obtain ⟨z9, rfl⟩ := hP9.ret
      refine W.eq (g2 := F0 m 49 ls [.int z9]) rfl ?_
      refine gh_reti hAe C V hr hlocks d_Ru_askFirst_49 (by first | decide | omega | (dsimp only; omega)) (by first | decide | omega | (dsimp only; omega)) ?_
      refine ⟨φ1, b1, some b, hR9, ⟨by omega, by omega⟩, hfr.tr hfr9 (fun a _ _ z => rn_M.le (Nat.le_refl _) (fun i hi => Or.inr ⟨by omega, by omega⟩) (Nat.le_succ _) a z), hfr9.at h_Z__1000___k__f3 (rn_M.st hz (by omega) (by omega) (by omega)), ?_⟩
      rw [hT]
      refine (hP9.imp (fun d x R _ _ _ h9 => ?_)).paid (by omega)
      obtain ⟨F9, h91, h92⟩ := h9
      exact ⟨b, F9, rfl, h91, fun i hi => Or.inr (by rcases h92 i hi with z | z <;> omega)⟩
  · subst ho
    have hs : f (Z (1000 + k)) = some (.inr (5, [.int (nI pt), .int (nI (19 - n)), .ref it, .ref el, .ref (Z (1000 + j)), y5, y6, y7, y8])) := hs
    have hRc := hR
    obtain ⟨h1R, ⟨hz, ⟨p206, p207⟩, ⟨gS, hgS, hgS2⟩, ⟨gG, hgG, hgG2⟩, hVR, hqR, hcdR, hbaR, hN60, hq0⟩, ⟨hgaV, hgaR⟩, hSR, hnon⟩ := hRc
    obtain ⟨pvsR, hvsR, hnuR, hnoR, hyeR, -⟩ := id hVR
    have hfr : gh_fr f f (rn_M ρ (20 - n) b (fun i => F i ∨ i = k)) := gh_fr.rf
    refine lv_aload_n hx hb d_Ru_askFirst_0 rfl (lv_at hl 1 rfl) ?_
    refine gh_get C V hs gc_St gi_St 4 (by decide) f_Ru_87 rfl rfl d_Ru_askFirst_1 ?_
    refine lv_ifnonnull (tgt := 41) hx hb d_Ru_askFirst_4 (by decide) ?_
    refine lv_aload_n hx hb d_Ru_askFirst_41 rfl (lv_at hl 0 rfl) ?_
    refine lv_aload_n hx hb d_Ru_askFirst_42 rfl (lv_at hl 1 rfl) ?_
    refine gh_get C V hs gc_St gi_St 4 (by decide) f_Ru_87 rfl rfl d_Ru_askFirst_43 ?_
    refine gh_callV C V hl.1 m_Ru_ask l_Ru_64 (IH _ f φ b s0 e0 0 j v T F hR hφb hFb hrs) rfl h1R gc_Ru ⟨by first | decide | omega | (dsimp only; omega), by first | decide | omega | (dsimp only; omega)⟩ ⟨by first | decide | omega | (dsimp only; omega), by first | decide | omega | (dsimp only; omega)⟩ (Nat.le_of_ble_eq_true rfl) rfl d_Ru_askFirst_46 (fun r f5 H locs hp V => ?_)
    obtain ⟨φ1, b1, hR9, ⟨hb1, hb2⟩, hfr9, hP9, -⟩ := hp
    obtain ⟨z9, rfl⟩ := hP9.ret
    refine W.eq (g2 := F0 m 49 ls [.int z9]) rfl ?_
    refine gh_reti hAe C V hr hlocks d_Ru_askFirst_49 (by first | decide | omega | (dsimp only; omega)) (by first | decide | omega | (dsimp only; omega)) ?_
    refine ⟨φ1, b1, some j, hR9, ⟨hb1, hb2⟩, hfr9.wide (fun a z => rn_M.le (Nat.le_refl _) (fun i hi => Or.inl (Or.inl hi)) (Nat.le_refl _) a z), hfr9.at hs (rn_M.st hz (by omega) hkb hFk), ?_⟩
    refine hP9.imp (fun d x R _ _ _ h9 => ?_)
    obtain ⟨F9, h91, h92⟩ := h9
    exact ⟨j, F9, rfl, h91, h92⟩
theorem d_Ru_askSecond_0 : decode b_Ru_askSecond 0 = .ok (.aload_n 1, 1) := by decide +kernel
theorem d_Ru_askSecond_1 : decode b_Ru_askSecond 1 = .ok (.getfield 91, 3) := by decide +kernel
theorem d_Ru_askSecond_4 : decode b_Ru_askSecond 4 = .ok (.ifnonnull 37, 3) := by decide +kernel
theorem d_Ru_askSecond_7 : decode b_Ru_askSecond 7 = .ok (.aload_n 1, 1) := by decide +kernel
theorem d_Ru_askSecond_8 : decode b_Ru_askSecond 8 = .ok (.aload_n 0, 1) := by decide +kernel
theorem d_Ru_askSecond_9 : decode b_Ru_askSecond 9 = .ok (.aload_n 0, 1) := by decide +kernel
theorem d_Ru_askSecond_10 : decode b_Ru_askSecond 10 = .ok (.getfield 44, 3) := by decide +kernel
theorem d_Ru_askSecond_13 : decode b_Ru_askSecond 13 = .ok (.aload_n 1, 1) := by decide +kernel
theorem d_Ru_askSecond_14 : decode b_Ru_askSecond 14 = .ok (.getfield 75, 3) := by decide +kernel
theorem d_Ru_askSecond_17 : decode b_Ru_askSecond 17 = .ok (.iconst 1, 1) := by decide +kernel
theorem d_Ru_askSecond_18 : decode b_Ru_askSecond 18 = .ok (.invokevirtual 137, 3) := by decide +kernel
theorem d_Ru_askSecond_21 : decode b_Ru_askSecond 21 = .ok (.aload_n 1, 1) := by decide +kernel
theorem d_Ru_askSecond_22 : decode b_Ru_askSecond 22 = .ok (.getfield 78, 3) := by decide +kernel
theorem d_Ru_askSecond_25 : decode b_Ru_askSecond 25 = .ok (.iconst 1, 1) := by decide +kernel
theorem d_Ru_askSecond_26 : decode b_Ru_askSecond 26 = .ok (.iadd, 1) := by decide +kernel
theorem d_Ru_askSecond_27 : decode b_Ru_askSecond 27 = .ok (.aload_n 1, 1) := by decide +kernel
theorem d_Ru_askSecond_28 : decode b_Ru_askSecond 28 = .ok (.getfield 81, 3) := by decide +kernel
theorem d_Ru_askSecond_31 : decode b_Ru_askSecond 31 = .ok (.aload_n 1, 1) := by decide +kernel
theorem d_Ru_askSecond_32 : decode b_Ru_askSecond 32 = .ok (.getfield 84, 3) := by decide +kernel
theorem d_Ru_askSecond_35 : decode b_Ru_askSecond 35 = .ok (.invokevirtual 60, 3) := by decide +kernel
theorem d_Ru_askSecond_38 : decode b_Ru_askSecond 38 = .ok (.putfield 91, 3) := by decide +kernel
theorem d_Ru_askSecond_41 : decode b_Ru_askSecond 41 = .ok (.aload_n 0, 1) := by decide +kernel
theorem d_Ru_askSecond_42 : decode b_Ru_askSecond 42 = .ok (.aload_n 1, 1) := by decide +kernel
theorem d_Ru_askSecond_43 : decode b_Ru_askSecond 43 = .ok (.getfield 91, 3) := by decide +kernel
theorem d_Ru_askSecond_46 : decode b_Ru_askSecond 46 = .ok (.invokevirtual 64, 3) := by decide +kernel
theorem d_Ru_askSecond_49 : decode b_Ru_askSecond 49 = .ok (.ireturn, 1) := by decide +kernel
set_option maxHeartbeats 4000000 in
set_option maxRecDepth 100000 in
theorem c_Ru_askSecond (l : Launch) (E : gh_E) (sz : Nat) (f : gh_F) (ρ Z : Nat → Nat) (q0 N : Nat) (cb bg : Nat → Nat) (φ b : Nat) (s0 e0 : Int32) (n k pt it el : Nat) (se : Option Nat) (y4 y6 y7 y8 : Value) (X Y : vt) (T : sr) (F : Nat → Prop) (hR : rn_R E ρ Z f q0 N cb bg φ b s0 e0) (hφb : φ + b ≤ 250) (hn : n ≤ 19) (hkb : k < b) (hpt : pt < 60) (hs : f (Z (1000 + k)) = some (.inr (5, [.int (nI pt), .int (nI (19 - n)), .ref it, .ref el, y4, ro Z se, y6, y7, y8]))) (hit : cw E (rP ρ) f it X) (hel : cw E (rP ρ) f el Y) (hS : rk_S E ρ Z cb bg N f φ b n k se (bg (pt * 3 + 1)) X Y T F) (IH : rk_A l E ρ Z q0 N cb bg n) : gh_M l y_Ru_askSecond b_Ru_askSecond 2 (some .int) E sz [.ref (Z 1), .ref (Z (1000 + k))] f { frames := 22 + 6 * n, cells := 3 * min (sr_c T) φ, slots := 39 * min (sr_c T) φ, locals := 800 + 200 * n } (fun r g => ∃ φ1 b1 fo, rn_R E ρ Z g q0 N cb bg φ1 b1 s0 e0 ∧ (b ≤ b1 ∧ b1 + φ1 ≤ b + φ) ∧ gh_fr f g (rn_M ρ (20 - n) b (fun i => F i ∨ i = k)) ∧ g (Z (1000 + k)) = some (.inr (5, [.int (nI pt), .int (nI (19 - n)), .ref it, .ref el, y4, ro Z fo, y6, y7, y8])) ∧ rk_P φ T r φ1 (fun x R => ∃ j F1, fo = some j ∧ rs E ρ Z cb bg N g φ1 n 0 j x R F1 ∧ ∀ i, F1 i → F i ∨ (b ≤ i ∧ i < b1))) := by
  refine gh_open (by decide) (Nat.le_of_ble_eq_true rfl) ?_
  intro p e s m args below meth c A ls hAe C V hr hlocks hname hl
  have hx := C.1
  have hb := C.2.1
  have hl : lv_has ls 2 [(0, .ref (Z 1)), (1, .ref (Z (1000 + k)))] := hl
  rcases hS with ⟨ho, hT, hok, hF0⟩ | ⟨j, v, ho, hrs, hFb, hFk⟩
  · subst ho
    have hs : f (Z (1000 + k)) = some (.inr (5, [.int (nI pt), .int (nI (19 - n)), .ref it, .ref el, y4, .null, y6, y7, y8])) := hs
    have hcT : sr_c T = 1 + sr_c (sr_B cb bg n (bg (pt * 3 + 1)) X Y) := by rw [hT, sr_c_add]
    have hn1 : 1 ≤ n := by obtain ⟨n1, -, z, -⟩ := hok; omega
    have hRc := hR
    obtain ⟨h1R, ⟨hz, ⟨p206, p207⟩, ⟨gS, hgS, hgS2⟩, ⟨gG, hgG, hgG2⟩, hVR, hqR, hcdR, hbaR, hN60, hq0⟩, ⟨hgaV, hgaR⟩, hSR, hnon⟩ := hRc
    obtain ⟨pvsR, hvsR, hnuR, hnoR, hyeR, -⟩ := id hVR
    have hfr : gh_fr f f (rn_M ρ (20 - n) b (fun i => F i ∨ i = k)) := gh_fr.rf
    refine lv_aload_n hx hb d_Ru_askSecond_0 rfl (lv_at hl 1 rfl) ?_
    refine gh_get C V hs gc_St gi_St 5 (by decide) f_Ru_91 rfl rfl d_Ru_askSecond_1 ?_
    refine lv_ifnonnullN hx hb d_Ru_askSecond_4 ?_
    refine lv_aload_n hx hb d_Ru_askSecond_7 rfl (lv_at hl 1 rfl) ?_
    refine lv_aload_n hx hb d_Ru_askSecond_8 rfl (lv_at hl 0 rfl) ?_
    refine lv_aload_n hx hb d_Ru_askSecond_9 rfl (lv_at hl 0 rfl) ?_
    refine gh_get C V h1R gc_Ru gi_Ru 4 (by decide) f_Ru_44 rfl rfl d_Ru_askSecond_10 ?_
    refine lv_aload_n hx hb d_Ru_askSecond_13 rfl (lv_at hl 1 rfl) ?_
    refine gh_get C V hs gc_St gi_St 0 (by decide) f_Ru_75 rfl rfl d_Ru_askSecond_14 ?_
    refine lv_iconst (v := 1) hx hb d_Ru_askSecond_17 (by decide) ?_
    refine gh_callV C V hl.1 m_Qu_placeIn l_Ru_137 (c_Qu_placeIn l E _ f (Z q0) (Z (q0 + 1)) (Z (q0 + 2)) N cb bg pt 1 hN60 hqR hcdR hbaR hpt (by decide)) rfl hqR gc_Qu ⟨by first | decide | omega | (dsimp only; omega), by first | decide | omega | (dsimp only; omega)⟩ ⟨by first | decide | omega | (dsimp only; omega), by first | decide | omega | (dsimp only; omega)⟩ (Nat.le_of_ble_eq_true rfl) rfl d_Ru_askSecond_18 (fun r z9 H locs hp V => ?_)
    obtain ⟨rfl, he9⟩ := hp
    rw [he9] at V
    refine W.eq (g2 := F0 m 21 ls [.int (nI (bg (pt * 3 + 1))), .ref (Z 1), .ref (Z (1000 + k))]) rfl ?_
    refine lv_aload_n hx hb d_Ru_askSecond_21 rfl (lv_at hl 1 rfl) ?_
    refine gh_get C V hs gc_St gi_St 1 (by decide) f_Ru_78 rfl rfl d_Ru_askSecond_22 ?_
    refine lv_iconst (v := 1) hx hb d_Ru_askSecond_25 (by decide) ?_
    refine gn_iadd (a := 19 - n) (b := 1) hx hb d_Ru_askSecond_26 ?_
    rw [show 19 - n + 1 = 20 - n by omega]
    refine lv_aload_n hx hb d_Ru_askSecond_27 rfl (lv_at hl 1 rfl) ?_
    refine gh_get C V hs gc_St gi_St 2 (by decide) f_Ru_81 rfl rfl d_Ru_askSecond_28 ?_
    refine lv_aload_n hx hb d_Ru_askSecond_31 rfl (lv_at hl 1 rfl) ?_
    refine gh_get C V hs gc_St gi_St 3 (by decide) f_Ru_84 rfl rfl d_Ru_askSecond_32 ?_
    refine gh_callV C V hl.1 m_Ru_begin l_Ru_60 (c_Ru_begin l E _ f ρ Z q0 N cb bg φ b s0 e0 (bg (pt * 3 + 1)) (20 - n) it el hR hφb (by omega)) rfl h1R gc_Ru ⟨by first | decide | omega | (dsimp only; omega), by first | decide | omega | (dsimp only; omega)⟩ ⟨by first | decide | omega | (dsimp only; omega), by first | decide | omega | (dsimp only; omega)⟩ (Nat.le_of_ble_eq_true rfl) rfl d_Ru_askSecond_35 (fun r g9 H locs hp V => ?_)
    by_cases hφ0 : φ = 0
    · obtain ⟨rfl, he9⟩ := hp.1 hφ0
      rw [he9] at V
      refine W.eq (g2 := F0 m 38 ls [.null, .ref (Z (1000 + k))]) rfl ?_
      refine gh_put C V hs gc_St gi_St ty_St nm_St 5 (by decide) f_Ru_91 rfl (by first | rfl | decide) (by first | rfl | decide) (Nat.le_of_ble_eq_true rfl) d_Ru_askSecond_38 (fun H locs V => ?_)
      obtain ⟨f1, hff1⟩ : ∃ z9 : gh_F, z9 = gh_u f (Z (1000 + k)) (.inr (5, [.int (nI pt), .int (nI (19 - n)), .ref it, .ref el, y4, .null, y6, y7, y8])) := ⟨_, rfl⟩
      have V : gh_V E A f1 s H locs := by rw [hff1]; exact V
      have hR : rn_R E ρ Z f1 q0 N cb bg φ b s0 e0 := by rw [hff1]; exact hR.step (k := k) (by omega)
      have hfr : gh_fr f f1 (rn_M ρ (20 - n) b (fun i => F i ∨ i = k)) := by rw [hff1]; exact hfr.put (Or.inl (Or.inr (Or.inr (Or.inr (Or.inr ⟨k, Or.inr rfl, hz _ (by unfold rU; omega)⟩)))))
      have h_Z__1000___k__f1 : f1 (Z (1000 + k)) = some (.inr (5, [.int (nI pt), .int (nI (19 - n)), .ref it, .ref el, y4, .null, y6, y7, y8])) := by rw [hff1, gh_us]
      have hRc := hR
      obtain ⟨h1R, ⟨hz, ⟨p206, p207⟩, ⟨gS, hgS, hgS2⟩, ⟨gG, hgG, hgG2⟩, hVR, hqR, hcdR, hbaR, hN60, hq0⟩, ⟨hgaV, hgaR⟩, hSR, hnon⟩ := hRc
      obtain ⟨pvsR, hvsR, hnuR, hnoR, hyeR, -⟩ := id hVR
      refine lv_aload_n hx hb d_Ru_askSecond_41 rfl (lv_at hl 0 rfl) ?_
      refine lv_aload_n hx hb d_Ru_askSecond_42 rfl (lv_at hl 1 rfl) ?_
      refine gh_get C V h_Z__1000___k__f1 gc_St gi_St 5 (by decide) f_Ru_91 rfl rfl d_Ru_askSecond_43 ?_
      refine gh_callV C V hl.1 m_Ru_ask l_Ru_64 (c_Ru_ask0 l E _ f1 (Z 1)) rfl h1R gc_Ru ⟨by first | decide | omega | (dsimp only; omega), by first | decide | omega | (dsimp only; omega)⟩ ⟨by first | decide | omega | (dsimp only; omega), by first | decide | omega | (dsimp only; omega)⟩ (Nat.le_of_ble_eq_true rfl) rfl d_Ru_askSecond_46 (fun r z9 H locs hp V => ?_)
      obtain ⟨rfl, he9⟩ := hp
      rw [he9] at V
      refine W.eq (g2 := F0 m 49 ls [.int 2]) rfl ?_
      refine gh_reti hAe C V hr hlocks d_Ru_askSecond_49 (by first | decide | omega | (dsimp only; omega)) (by first | decide | omega | (dsimp only; omega)) ?_
      exact ⟨φ, b, none, hR, ⟨Nat.le_refl _, Nat.le_refl _⟩, hfr, h_Z__1000___k__f1, Or.inl ⟨by omega, rfl, hφ0⟩⟩
    · obtain ⟨rfl, hR, hsb, hfr9⟩ := hp.2 (by omega)
      have hs := hfr9.at hs (fun z => by have e9 := hz (1000 + k) (by unfold rU; omega); rcases z with z | z <;> omega)
      have hfr : gh_fr f g9 (rn_M ρ (20 - n) b (fun i => F i ∨ i = k)) := hfr9.wide (fun a z => by rcases z with z | z; exact Or.inl z; exact Or.inr (Or.inr (Or.inr (Or.inl (by omega)))))
      refine W.eq (g2 := F0 m 38 ls [.ref (Z (1000 + b)), .ref (Z (1000 + k))]) rfl ?_
      have hRc := hR
      obtain ⟨h1R, ⟨hz, ⟨p206, p207⟩, ⟨gS, hgS, hgS2⟩, ⟨gG, hgG, hgG2⟩, hVR, hqR, hcdR, hbaR, hN60, hq0⟩, ⟨hgaV, hgaR⟩, hSR, hnon⟩ := hRc
      obtain ⟨pvsR, hvsR, hnuR, hnoR, hyeR, -⟩ := id hVR
      refine gh_put C V hs gc_St gi_St ty_St nm_St 5 (by decide) f_Ru_91 rfl (by first | rfl | decide) (by first | rfl | decide) (Nat.le_of_ble_eq_true rfl) d_Ru_askSecond_38 (fun H locs V => ?_)
      obtain ⟨f3, hff3⟩ : ∃ z9 : gh_F, z9 = gh_u g9 (Z (1000 + k)) (.inr (5, [.int (nI pt), .int (nI (19 - n)), .ref it, .ref el, y4, .ref (Z (1000 + b)), y6, y7, y8])) := ⟨_, rfl⟩
      have V : gh_V E A f3 s H locs := by rw [hff3]; exact V
      have hR : rn_R E ρ Z f3 q0 N cb bg (φ - 1) (b + 1) s0 e0 := by rw [hff3]; exact hR.step (k := k) (by omega)
      have hfr : gh_fr f f3 (rn_M ρ (20 - n) b (fun i => F i ∨ i = k)) := by rw [hff3]; exact hfr.put (Or.inl (Or.inr (Or.inr (Or.inr (Or.inr ⟨k, Or.inr rfl, hz _ (by unfold rU; omega)⟩)))))
      have h_Z__1000___b__f3 : f3 (Z (1000 + b)) = some (.inr (5, [.int (nI (bg (pt * 3 + 1))), .int (nI (20 - n)), .ref it, .ref el, .null, .null, .int 0, .int 0, .ref (Z 201)])) := by rw [hff3, gh_un (rz_ne hz (by unfold rU; omega) (by unfold rU; omega) (by omega))]; exact hsb
      have h_Z__1000___k__f3 : f3 (Z (1000 + k)) = some (.inr (5, [.int (nI pt), .int (nI (19 - n)), .ref it, .ref el, y4, .ref (Z (1000 + b)), y6, y7, y8])) := by rw [hff3, gh_us]
      have hRc := hR
      obtain ⟨h1R, ⟨hz, ⟨p206, p207⟩, ⟨gS, hgS, hgS2⟩, ⟨gG, hgG, hgG2⟩, hVR, hqR, hcdR, hbaR, hN60, hq0⟩, ⟨hgaV, hgaR⟩, hSR, hnon⟩ := hRc
      obtain ⟨pvsR, hvsR, hnuR, hnoR, hyeR, -⟩ := id hVR
      refine lv_aload_n hx hb d_Ru_askSecond_41 rfl (lv_at hl 0 rfl) ?_
      refine lv_aload_n hx hb d_Ru_askSecond_42 rfl (lv_at hl 1 rfl) ?_
      refine gh_get C V h_Z__1000___k__f3 gc_St gi_St 5 (by decide) f_Ru_91 rfl rfl d_Ru_askSecond_43 ?_
      have hrs := rs_new (Y := Y) (φ := φ - 1) hok (by omega) (by omega) h_Z__1000___b__f3 (hit.keep hfr rn_M.P) (hel.keep hfr rn_M.P) hnuR
      refine gh_callV C V hl.1 m_Ru_ask l_Ru_64 (IH _ f3 (φ - 1) (b + 1) s0 e0 1 b (vt_0 0) (sr_B cb bg n (bg (pt * 3 + 1)) X Y) (fun i => i = b) hR (by omega) (fun j hj => by omega) hrs) rfl h1R gc_Ru ⟨by first | decide | omega | (dsimp only; omega), by first | decide | omega | (dsimp only; omega)⟩ ⟨by first | decide | omega | (dsimp only; omega), by first | decide | omega | (dsimp only; omega)⟩ (Nat.le_of_ble_eq_true rfl) rfl d_Ru_askSecond_46 (fun r f4 H locs hp V => ?_)
      obtain ⟨φ1, b1, hR9, ⟨hb1, hb2⟩, hfr9, hP9, -⟩ := hp
      obtain ⟨z9, rfl⟩ := hP9.ret
      refine W.eq (g2 := F0 m 49 ls [.int z9]) rfl ?_
      refine gh_reti hAe C V hr hlocks d_Ru_askSecond_49 (by first | decide | omega | (dsimp only; omega)) (by first | decide | omega | (dsimp only; omega)) ?_
      refine ⟨φ1, b1, some b, hR9, ⟨by omega, by omega⟩, hfr.tr hfr9 (fun a _ _ z => rn_M.le (Nat.le_refl _) (fun i hi => Or.inr ⟨by omega, by omega⟩) (Nat.le_succ _) a z), hfr9.at h_Z__1000___k__f3 (rn_M.st hz (by omega) (by omega) (by omega)), ?_⟩
      rw [hT]
      refine (hP9.imp (fun d x R _ _ _ h9 => ?_)).paid (by omega)
      obtain ⟨F9, h91, h92⟩ := h9
      exact ⟨b, F9, rfl, h91, fun i hi => Or.inr (by rcases h92 i hi with z | z <;> omega)⟩
  · subst ho
    have hs : f (Z (1000 + k)) = some (.inr (5, [.int (nI pt), .int (nI (19 - n)), .ref it, .ref el, y4, .ref (Z (1000 + j)), y6, y7, y8])) := hs
    have hRc := hR
    obtain ⟨h1R, ⟨hz, ⟨p206, p207⟩, ⟨gS, hgS, hgS2⟩, ⟨gG, hgG, hgG2⟩, hVR, hqR, hcdR, hbaR, hN60, hq0⟩, ⟨hgaV, hgaR⟩, hSR, hnon⟩ := hRc
    obtain ⟨pvsR, hvsR, hnuR, hnoR, hyeR, -⟩ := id hVR
    have hfr : gh_fr f f (rn_M ρ (20 - n) b (fun i => F i ∨ i = k)) := gh_fr.rf
    refine lv_aload_n hx hb d_Ru_askSecond_0 rfl (lv_at hl 1 rfl) ?_
    refine gh_get C V hs gc_St gi_St 5 (by decide) f_Ru_91 rfl rfl d_Ru_askSecond_1 ?_
    refine lv_ifnonnull (tgt := 41) hx hb d_Ru_askSecond_4 (by decide) ?_
    refine lv_aload_n hx hb d_Ru_askSecond_41 rfl (lv_at hl 0 rfl) ?_
    refine lv_aload_n hx hb d_Ru_askSecond_42 rfl (lv_at hl 1 rfl) ?_
    refine gh_get C V hs gc_St gi_St 5 (by decide) f_Ru_91 rfl rfl d_Ru_askSecond_43 ?_
    refine gh_callV C V hl.1 m_Ru_ask l_Ru_64 (IH _ f φ b s0 e0 0 j v T F hR hφb hFb hrs) rfl h1R gc_Ru ⟨by first | decide | omega | (dsimp only; omega), by first | decide | omega | (dsimp only; omega)⟩ ⟨by first | decide | omega | (dsimp only; omega), by first | decide | omega | (dsimp only; omega)⟩ (Nat.le_of_ble_eq_true rfl) rfl d_Ru_askSecond_46 (fun r f5 H locs hp V => ?_)
    obtain ⟨φ1, b1, hR9, ⟨hb1, hb2⟩, hfr9, hP9, -⟩ := hp
    obtain ⟨z9, rfl⟩ := hP9.ret
    refine W.eq (g2 := F0 m 49 ls [.int z9]) rfl ?_
    refine gh_reti hAe C V hr hlocks d_Ru_askSecond_49 (by first | decide | omega | (dsimp only; omega)) (by first | decide | omega | (dsimp only; omega)) ?_
    refine ⟨φ1, b1, some j, hR9, ⟨hb1, hb2⟩, hfr9.wide (fun a z => rn_M.le (Nat.le_refl _) (fun i hi => Or.inl (Or.inl hi)) (Nat.le_refl _) a z), hfr9.at hs (rn_M.st hz (by omega) hkb hFk), ?_⟩
    refine hP9.imp (fun d x R _ _ _ h9 => ?_)
    obtain ⟨F9, h91, h92⟩ := h9
    exact ⟨j, F9, rfl, h91, h92⟩
