/-! onlyValue, askOnlyValue. Printed by wip/whole/gen_ru9.py. -/
theorem d_Ru_onlyValue_0 : decode b_Ru_onlyValue 0 = .ok (.aload_n 0, 1) := by decide +kernel
theorem d_Ru_onlyValue_1 : decode b_Ru_onlyValue 1 = .ok (.getfield 44, 3) := by decide +kernel
theorem d_Ru_onlyValue_4 : decode b_Ru_onlyValue 4 = .ok (.aload_n 1, 1) := by decide +kernel
theorem d_Ru_onlyValue_5 : decode b_Ru_onlyValue 5 = .ok (.getfield 75, 3) := by decide +kernel
theorem d_Ru_onlyValue_8 : decode b_Ru_onlyValue 8 = .ok (.invokevirtual 100, 3) := by decide +kernel
theorem d_Ru_onlyValue_11 : decode b_Ru_onlyValue 11 = .ok (.tableswitch 244 0 21 #[101, 103, 127, 244, 244, 144, 164, 183, 244, 244, 244, 244, 244, 244, 244, 191, 244, 244, 244, 196, 216, 222], 101) := by decide +kernel
theorem d_Ru_onlyValue_112 : decode b_Ru_onlyValue 112 = .ok (.aload_n 2, 1) := by decide +kernel
theorem d_Ru_onlyValue_113 : decode b_Ru_onlyValue 113 = .ok (.areturn, 1) := by decide +kernel
theorem d_Ru_onlyValue_114 : decode b_Ru_onlyValue 114 = .ok (.aload_n 0, 1) := by decide +kernel
theorem d_Ru_onlyValue_115 : decode b_Ru_onlyValue 115 = .ok (.aload_n 2, 1) := by decide +kernel
theorem d_Ru_onlyValue_116 : decode b_Ru_onlyValue 116 = .ok (.aload_n 0, 1) := by decide +kernel
theorem d_Ru_onlyValue_117 : decode b_Ru_onlyValue 117 = .ok (.getfield 13, 3) := by decide +kernel
theorem d_Ru_onlyValue_120 : decode b_Ru_onlyValue 120 = .ok (.aload_n 0, 1) := by decide +kernel
theorem d_Ru_onlyValue_121 : decode b_Ru_onlyValue 121 = .ok (.getfield 44, 3) := by decide +kernel
theorem d_Ru_onlyValue_124 : decode b_Ru_onlyValue 124 = .ok (.aload_n 1, 1) := by decide +kernel
theorem d_Ru_onlyValue_125 : decode b_Ru_onlyValue 125 = .ok (.getfield 75, 3) := by decide +kernel
theorem d_Ru_onlyValue_128 : decode b_Ru_onlyValue 128 = .ok (.invokevirtual 188, 3) := by decide +kernel
theorem d_Ru_onlyValue_131 : decode b_Ru_onlyValue 131 = .ok (.invokevirtual 191, 3) := by decide +kernel
theorem d_Ru_onlyValue_134 : decode b_Ru_onlyValue 134 = .ok (.invokevirtual 230, 3) := by decide +kernel
theorem d_Ru_onlyValue_137 : decode b_Ru_onlyValue 137 = .ok (.areturn, 1) := by decide +kernel
theorem d_Ru_onlyValue_138 : decode b_Ru_onlyValue 138 = .ok (.aload_n 0, 1) := by decide +kernel
theorem d_Ru_onlyValue_139 : decode b_Ru_onlyValue 139 = .ok (.aload_n 2, 1) := by decide +kernel
theorem d_Ru_onlyValue_140 : decode b_Ru_onlyValue 140 = .ok (.aload_n 0, 1) := by decide +kernel
theorem d_Ru_onlyValue_141 : decode b_Ru_onlyValue 141 = .ok (.getfield 44, 3) := by decide +kernel
theorem d_Ru_onlyValue_144 : decode b_Ru_onlyValue 144 = .ok (.aload_n 1, 1) := by decide +kernel
theorem d_Ru_onlyValue_145 : decode b_Ru_onlyValue 145 = .ok (.getfield 75, 3) := by decide +kernel
theorem d_Ru_onlyValue_148 : decode b_Ru_onlyValue 148 = .ok (.invokevirtual 233, 3) := by decide +kernel
theorem d_Ru_onlyValue_151 : decode b_Ru_onlyValue 151 = .ok (.invokevirtual 236, 3) := by decide +kernel
theorem d_Ru_onlyValue_154 : decode b_Ru_onlyValue 154 = .ok (.areturn, 1) := by decide +kernel
theorem d_Ru_onlyValue_155 : decode b_Ru_onlyValue 155 = .ok (.aload_n 0, 1) := by decide +kernel
theorem d_Ru_onlyValue_156 : decode b_Ru_onlyValue 156 = .ok (.getfield 13, 3) := by decide +kernel
theorem d_Ru_onlyValue_159 : decode b_Ru_onlyValue 159 = .ok (.aload_n 0, 1) := by decide +kernel
theorem d_Ru_onlyValue_160 : decode b_Ru_onlyValue 160 = .ok (.getfield 44, 3) := by decide +kernel
theorem d_Ru_onlyValue_163 : decode b_Ru_onlyValue 163 = .ok (.aload_n 1, 1) := by decide +kernel
theorem d_Ru_onlyValue_164 : decode b_Ru_onlyValue 164 = .ok (.getfield 75, 3) := by decide +kernel
theorem d_Ru_onlyValue_167 : decode b_Ru_onlyValue 167 = .ok (.invokevirtual 233, 3) := by decide +kernel
theorem d_Ru_onlyValue_170 : decode b_Ru_onlyValue 170 = .ok (.i2l, 1) := by decide +kernel
theorem d_Ru_onlyValue_171 : decode b_Ru_onlyValue 171 = .ok (.invokevirtual 240, 3) := by decide +kernel
theorem d_Ru_onlyValue_174 : decode b_Ru_onlyValue 174 = .ok (.areturn, 1) := by decide +kernel
theorem d_Ru_onlyValue_175 : decode b_Ru_onlyValue 175 = .ok (.aload_n 0, 1) := by decide +kernel
theorem d_Ru_onlyValue_176 : decode b_Ru_onlyValue 176 = .ok (.getfield 13, 3) := by decide +kernel
theorem d_Ru_onlyValue_179 : decode b_Ru_onlyValue 179 = .ok (.aload_n 0, 1) := by decide +kernel
theorem d_Ru_onlyValue_180 : decode b_Ru_onlyValue 180 = .ok (.getfield 44, 3) := by decide +kernel
theorem d_Ru_onlyValue_183 : decode b_Ru_onlyValue 183 = .ok (.aload_n 1, 1) := by decide +kernel
theorem d_Ru_onlyValue_184 : decode b_Ru_onlyValue 184 = .ok (.getfield 75, 3) := by decide +kernel
theorem d_Ru_onlyValue_187 : decode b_Ru_onlyValue 187 = .ok (.invokevirtual 188, 3) := by decide +kernel
theorem d_Ru_onlyValue_190 : decode b_Ru_onlyValue 190 = .ok (.invokevirtual 191, 3) := by decide +kernel
theorem d_Ru_onlyValue_193 : decode b_Ru_onlyValue 193 = .ok (.areturn, 1) := by decide +kernel
theorem d_Ru_onlyValue_194 : decode b_Ru_onlyValue 194 = .ok (.aload_n 0, 1) := by decide +kernel
theorem d_Ru_onlyValue_195 : decode b_Ru_onlyValue 195 = .ok (.getfield 13, 3) := by decide +kernel
theorem d_Ru_onlyValue_198 : decode b_Ru_onlyValue 198 = .ok (.getfield 54, 3) := by decide +kernel
theorem d_Ru_onlyValue_201 : decode b_Ru_onlyValue 201 = .ok (.areturn, 1) := by decide +kernel
theorem d_Ru_onlyValue_202 : decode b_Ru_onlyValue 202 = .ok (.aload_n 1, 1) := by decide +kernel
theorem d_Ru_onlyValue_203 : decode b_Ru_onlyValue 203 = .ok (.getfield 84, 3) := by decide +kernel
theorem d_Ru_onlyValue_206 : decode b_Ru_onlyValue 206 = .ok (.areturn, 1) := by decide +kernel
theorem d_Ru_onlyValue_207 : decode b_Ru_onlyValue 207 = .ok (.aload_n 0, 1) := by decide +kernel
theorem d_Ru_onlyValue_208 : decode b_Ru_onlyValue 208 = .ok (.getfield 13, 3) := by decide +kernel
theorem d_Ru_onlyValue_211 : decode b_Ru_onlyValue 211 = .ok (.aload_n 2, 1) := by decide +kernel
theorem d_Ru_onlyValue_212 : decode b_Ru_onlyValue 212 = .ok (.invokevirtual 165, 3) := by decide +kernel
theorem d_Ru_onlyValue_215 : decode b_Ru_onlyValue 215 = .ok (.ifCond .ne 7, 3) := by decide +kernel
theorem d_Ru_onlyValue_218 : decode b_Ru_onlyValue 218 = .ok (.iconst 1, 1) := by decide +kernel
theorem d_Ru_onlyValue_219 : decode b_Ru_onlyValue 219 = .ok (.goto 4, 3) := by decide +kernel
theorem d_Ru_onlyValue_222 : decode b_Ru_onlyValue 222 = .ok (.iconst 0, 1) := by decide +kernel
theorem d_Ru_onlyValue_223 : decode b_Ru_onlyValue 223 = .ok (.invokevirtual 215, 3) := by decide +kernel
theorem d_Ru_onlyValue_226 : decode b_Ru_onlyValue 226 = .ok (.areturn, 1) := by decide +kernel
theorem d_Ru_onlyValue_227 : decode b_Ru_onlyValue 227 = .ok (.aload_n 0, 1) := by decide +kernel
theorem d_Ru_onlyValue_228 : decode b_Ru_onlyValue 228 = .ok (.aload_n 2, 1) := by decide +kernel
theorem d_Ru_onlyValue_229 : decode b_Ru_onlyValue 229 = .ok (.invokevirtual 244, 3) := by decide +kernel
theorem d_Ru_onlyValue_232 : decode b_Ru_onlyValue 232 = .ok (.areturn, 1) := by decide +kernel
theorem d_Ru_onlyValue_233 : decode b_Ru_onlyValue 233 = .ok (.aload_n 2, 1) := by decide +kernel
theorem d_Ru_onlyValue_234 : decode b_Ru_onlyValue 234 = .ok (.getfield 185, 3) := by decide +kernel
theorem d_Ru_onlyValue_237 : decode b_Ru_onlyValue 237 = .ok (.bipush 6, 2) := by decide +kernel
theorem d_Ru_onlyValue_239 : decode b_Ru_onlyValue 239 = .ok (.if_icmp .ne 14, 3) := by decide +kernel
theorem d_Ru_onlyValue_242 : decode b_Ru_onlyValue 242 = .ok (.aload_n 0, 1) := by decide +kernel
theorem d_Ru_onlyValue_243 : decode b_Ru_onlyValue 243 = .ok (.getfield 13, 3) := by decide +kernel
theorem d_Ru_onlyValue_246 : decode b_Ru_onlyValue 246 = .ok (.aload_n 2, 1) := by decide +kernel
theorem d_Ru_onlyValue_247 : decode b_Ru_onlyValue 247 = .ok (.invokevirtual 248, 3) := by decide +kernel
theorem d_Ru_onlyValue_250 : decode b_Ru_onlyValue 250 = .ok (.goto 4, 3) := by decide +kernel
theorem d_Ru_onlyValue_253 : decode b_Ru_onlyValue 253 = .ok (.aconst_null, 1) := by decide +kernel
theorem d_Ru_onlyValue_254 : decode b_Ru_onlyValue 254 = .ok (.areturn, 1) := by decide +kernel
theorem d_Ru_onlyValue_255 : decode b_Ru_onlyValue 255 = .ok (.aconst_null, 1) := by decide +kernel
theorem d_Ru_onlyValue_256 : decode b_Ru_onlyValue 256 = .ok (.areturn, 1) := by decide +kernel
set_option maxHeartbeats 4000000 in
set_option maxRecDepth 100000 in
theorem c_Ru_onlyValue (l : Launch) (E : gh_E) (sz : Nat) (f : gh_F) (ρ Z : Nat → Nat) (q0 N : Nat) (cb bg : Nat → Nat) (φ b : Nat) (s0 e0 : Int32) (k pt w9 it el : Nat) (X Y : vt) (y1 y4 y5 y6 y7 y8 : Value) (hR : rn_R E ρ Z f q0 N cb bg φ b s0 e0) (hs : f (Z (1000 + k)) = some (.inr (5, [.int (nI pt), y1, .ref it, .ref el, y4, y5, y6, y7, y8]))) (hqw : qw cb bg N w9 pt) (hit : cw E (rP ρ) f it X) (hel : cw E (rP ρ) f el Y) (hkd : cb pt = 0 ∨ cb pt = 1 ∨ cb pt = 2 ∨ cb pt = 5 ∨ cb pt = 6 ∨ cb pt = 7 ∨ cb pt = 15 ∨ cb pt = 18 ∨ cb pt = 19 ∨ cb pt = 20 ∨ cb pt = 21) : gh_M l y_Ru_onlyValue b_Ru_onlyValue 3 (some (.object "QueryMachine$Value")) E sz [.ref (Z 1), .ref (Z (1000 + k)), .ref it] f { frames := 5, cells := 1, slots := 7, locals := 160 } (fun r g => vr_A E (rP ρ) g (sr_leaf cb pt X Y) r ∧ gh_fr f g (fun b => b ∈ ([] : List Nat))) := by
  have hptN := (qw_lt hqw).1
  have hoX := vo_o.mp hit.2
  have hk6 := hoX.1
  refine gh_open (by decide) (Nat.le_of_ble_eq_true rfl) ?_
  intro p e s m args below meth c A ls hAe C V hr hlocks hname hl
  have hx := C.1
  have hb := C.2.1
  have hl : lv_has ls 3 [(0, .ref (Z 1)), (1, .ref (Z (1000 + k))), (2, .ref it)] := hl
  have hRc := hR
  obtain ⟨h1R, ⟨hz, ⟨p206, p207⟩, ⟨gS, hgS, hgS2⟩, ⟨gG, hgG, hgG2⟩, hVR, hqR, hcdR, hbaR, hN60, hq0⟩, ⟨hgaV, hgaR⟩, hSR, hnon⟩ := hRc
  obtain ⟨pvsR, hvsR, hnuR, hnoR, hyeR, -⟩ := id hVR
  refine lv_aload_n hx hb d_Ru_onlyValue_0 rfl (lv_at hl 0 rfl) ?_
  refine gh_get C V h1R gc_Ru gi_Ru 4 (by decide) f_Ru_44 rfl rfl d_Ru_onlyValue_1 ?_
  refine lv_aload_n hx hb d_Ru_onlyValue_4 rfl (lv_at hl 1 rfl) ?_
  refine gh_get C V hs gc_St gi_St 0 (by decide) f_Ru_75 rfl rfl d_Ru_onlyValue_5 ?_
  refine gh_callV C V hl.1 m_Qu_partAt l_Ru_100 (c_Qu_partAt l E _ f (Z q0) (Z (q0 + 1)) (Z (q0 + 2)) N cb bg pt hN60 hqR hcdR hbaR hptN) rfl hqR gc_Qu ⟨by first | decide | omega | (dsimp only; omega), by first | decide | omega | (dsimp only; omega)⟩ ⟨by first | decide | omega | (dsimp only; omega), by first | decide | omega | (dsimp only; omega)⟩ (Nat.le_of_ble_eq_true rfl) rfl d_Ru_onlyValue_8 (fun r z9 H locs hp V => ?_)
  obtain ⟨rfl, he9⟩ := hp
  rw [he9] at V
  refine W.eq (g2 := F0 m 11 ls [.int (nI (cb pt))]) rfl ?_
  rcases hkd with hk | hk | hk | hk | hk | hk | hk | hk | hk | hk | hk
  · rw [hk]
    refine lv_tableIn (off := 101) (tgt := 112) hx hb d_Ru_onlyValue_11 (by decide) (by decide) (by decide) (by decide) ?_
    refine lv_aload_n hx hb d_Ru_onlyValue_112 rfl (lv_at hl 2 rfl) ?_
    refine gh_reta hAe C V hr (by first | exact Or.inl ⟨_, rfl⟩ | exact Or.inr ⟨_, rfl⟩) (by first | exact Or.inl rfl | exact Or.inr ⟨_, rfl⟩) hlocks d_Ru_onlyValue_113 (by first | decide | omega | (dsimp only; omega)) (by first | decide | omega | (dsimp only; omega)) ?_
    have hlf : sr_leaf cb pt X Y = some X := by unfold sr_leaf; rw [if_pos hk]
    rw [hlf]
    exact ⟨⟨_, rfl, hit⟩, gh_fr.rf⟩
  · rw [hk]
    have hle := qw_let hqw (by omega)
    refine lv_tableIn (off := 103) (tgt := 114) hx hb d_Ru_onlyValue_11 (by decide) (by decide) (by decide) (by decide) ?_
    refine lv_aload_n hx hb d_Ru_onlyValue_114 rfl (lv_at hl 0 rfl) ?_
    refine lv_aload_n hx hb d_Ru_onlyValue_115 rfl (lv_at hl 2 rfl) ?_
    refine lv_aload_n hx hb d_Ru_onlyValue_116 rfl (lv_at hl 0 rfl) ?_
    refine gh_get C V h1R gc_Ru gi_Ru 0 (by decide) f_Ru_13 rfl rfl d_Ru_onlyValue_117 ?_
    refine lv_aload_n hx hb d_Ru_onlyValue_120 rfl (lv_at hl 0 rfl) ?_
    refine gh_get C V h1R gc_Ru gi_Ru 4 (by decide) f_Ru_44 rfl rfl d_Ru_onlyValue_121 ?_
    refine lv_aload_n hx hb d_Ru_onlyValue_124 rfl (lv_at hl 1 rfl) ?_
    refine gh_get C V hs gc_St gi_St 0 (by decide) f_Ru_75 rfl rfl d_Ru_onlyValue_125 ?_
    refine gh_callV C V hl.1 m_Qu_letterOf l_Ru_188 (c_Qu_letterOf l E _ f (Z q0) (Z (q0 + 1)) (Z (q0 + 2)) N cb bg pt hN60 hqR hcdR hbaR hle.1) rfl hqR gc_Qu ⟨by first | decide | omega | (dsimp only; omega), by first | decide | omega | (dsimp only; omega)⟩ ⟨by first | decide | omega | (dsimp only; omega), by first | decide | omega | (dsimp only; omega)⟩ (Nat.le_of_ble_eq_true rfl) rfl d_Ru_onlyValue_128 (fun r z9 H locs hp V => ?_)
    obtain ⟨rfl, he9⟩ := hp
    rw [he9] at V
    refine W.eq (g2 := F0 m 131 ls [.int (nI (cb (pt + 1))), .ref (Z 200), .ref it, .ref (Z 1)]) rfl ?_
    refine gh_callV C V hl.1 m_Vs_letter l_Ru_191 (c_Vs_letter l E _ f (rP ρ) (Z 200) (Z 201) (Z 202) (Z 203) (Z 204) (Z 205) (Z 3) (cb (pt + 1)) hVR hnon ⟨hle.2.1, hle.2.2⟩) rfl hvsR gc_Vs ⟨by first | decide | omega | (dsimp only; omega), by first | decide | omega | (dsimp only; omega)⟩ ⟨by first | decide | omega | (dsimp only; omega), by first | decide | omega | (dsimp only; omega)⟩ (Nat.le_of_ble_eq_true rfl) rfl d_Ru_onlyValue_131 (fun r z9 H locs hp V => ?_)
    obtain ⟨⟨ac, rfl, hac⟩, he9⟩ := hp
    rw [he9] at V hac
    refine W.eq (g2 := F0 m 134 ls [.ref ac, .ref it, .ref (Z 1)]) rfl ?_
    refine gh_callV C V hl.1 m_Ru_field l_Ru_230 (c_Ru_field l E _ f ρ Z q0 N cb bg φ b s0 e0 it X ac [nI (cb (pt + 1))] hR hit hac (lt_ch (by omega))) rfl h1R gc_Ru ⟨by first | decide | omega | (dsimp only; omega), by first | decide | omega | (dsimp only; omega)⟩ ⟨by first | decide | omega | (dsimp only; omega), by first | decide | omega | (dsimp only; omega)⟩ (Nat.le_of_ble_eq_true rfl) rfl d_Ru_onlyValue_134 (fun r z9 H locs hp V => ?_)
    obtain ⟨hva, he9⟩ := hp
    rw [he9] at V hva
    cases ho : sr_fld X [nI (cb (pt + 1))] with
    | none =>
      rw [ho] at hva
      have hva : r = some .null := hva
      subst hva
      refine W.eq (g2 := F0 m 137 ls [.null]) rfl ?_
      refine gh_reta hAe C V hr (by first | exact Or.inl ⟨_, rfl⟩ | exact Or.inr ⟨_, rfl⟩) (by first | exact Or.inl rfl | exact Or.inr ⟨_, rfl⟩) hlocks d_Ru_onlyValue_137 (by first | decide | omega | (dsimp only; omega)) (by first | decide | omega | (dsimp only; omega)) ?_
      have hlf : sr_leaf cb pt X Y = sr_fld X [nI (cb (pt + 1))] := by unfold sr_leaf; rw [if_neg (by omega), if_pos hk]
      rw [hlf]
      exact ⟨by rw [ho]; exact rfl, gh_fr.rf⟩
    | some M9 =>
      rw [ho] at hva
      obtain ⟨b9, rfl, hb9⟩ := hva
      refine W.eq (g2 := F0 m 137 ls [.ref b9]) rfl ?_
      refine gh_reta hAe C V hr (by first | exact Or.inl ⟨_, rfl⟩ | exact Or.inr ⟨_, rfl⟩) (by first | exact Or.inl rfl | exact Or.inr ⟨_, rfl⟩) hlocks d_Ru_onlyValue_137 (by first | decide | omega | (dsimp only; omega)) (by first | decide | omega | (dsimp only; omega)) ?_
      have hlf : sr_leaf cb pt X Y = sr_fld X [nI (cb (pt + 1))] := by unfold sr_leaf; rw [if_neg (by omega), if_pos hk]
      rw [hlf]
      exact ⟨by rw [ho]; exact ⟨_, rfl, hb9⟩, gh_fr.rf⟩
  · rw [hk]
    have hnm := qw_num hqw (by omega)
    refine lv_tableIn (off := 127) (tgt := 138) hx hb d_Ru_onlyValue_11 (by decide) (by decide) (by decide) (by decide) ?_
    refine lv_aload_n hx hb d_Ru_onlyValue_138 rfl (lv_at hl 0 rfl) ?_
    refine lv_aload_n hx hb d_Ru_onlyValue_139 rfl (lv_at hl 2 rfl) ?_
    refine lv_aload_n hx hb d_Ru_onlyValue_140 rfl (lv_at hl 0 rfl) ?_
    refine gh_get C V h1R gc_Ru gi_Ru 4 (by decide) f_Ru_44 rfl rfl d_Ru_onlyValue_141 ?_
    refine lv_aload_n hx hb d_Ru_onlyValue_144 rfl (lv_at hl 1 rfl) ?_
    refine gh_get C V hs gc_St gi_St 0 (by decide) f_Ru_75 rfl rfl d_Ru_onlyValue_145 ?_
    refine gh_callV C V hl.1 m_Qu_numberOf l_Ru_233 (c_Qu_numberOf l E _ f (Z q0) (Z (q0 + 1)) (Z (q0 + 2)) N cb bg pt hN60 hqR hcdR hbaR hnm.1) rfl hqR gc_Qu ⟨by first | decide | omega | (dsimp only; omega), by first | decide | omega | (dsimp only; omega)⟩ ⟨by first | decide | omega | (dsimp only; omega), by first | decide | omega | (dsimp only; omega)⟩ (Nat.le_of_ble_eq_true rfl) rfl d_Ru_onlyValue_148 (fun r z9 H locs hp V => ?_)
    obtain ⟨rfl, he9⟩ := hp
    rw [he9] at V
    refine W.eq (g2 := F0 m 151 ls [.int (nI (cb (pt + 1)) - 128), .ref it, .ref (Z 1)]) rfl ?_
    refine gh_callV C V hl.1 m_Ru_item l_Ru_236 (c_Ru_item l E _ f ρ Z q0 N cb bg φ b s0 e0 it X (cb (pt + 1)) hR hit hnm.2) rfl h1R gc_Ru ⟨by first | decide | omega | (dsimp only; omega), by first | decide | omega | (dsimp only; omega)⟩ ⟨by first | decide | omega | (dsimp only; omega), by first | decide | omega | (dsimp only; omega)⟩ (Nat.le_of_ble_eq_true rfl) rfl d_Ru_onlyValue_151 (fun r z9 H locs hp V => ?_)
    obtain ⟨hva, he9⟩ := hp
    rw [he9] at V hva
    cases ho : sr_itm X (cb (pt + 1)) with
    | none =>
      rw [ho] at hva
      have hva : r = some .null := hva
      subst hva
      refine W.eq (g2 := F0 m 154 ls [.null]) rfl ?_
      refine gh_reta hAe C V hr (by first | exact Or.inl ⟨_, rfl⟩ | exact Or.inr ⟨_, rfl⟩) (by first | exact Or.inl rfl | exact Or.inr ⟨_, rfl⟩) hlocks d_Ru_onlyValue_154 (by first | decide | omega | (dsimp only; omega)) (by first | decide | omega | (dsimp only; omega)) ?_
      have hlf : sr_leaf cb pt X Y = sr_itm X (cb (pt + 1)) := by unfold sr_leaf; rw [if_neg (by omega), if_neg (by omega), if_pos hk]
      rw [hlf]
      exact ⟨by rw [ho]; exact rfl, gh_fr.rf⟩
    | some M9 =>
      rw [ho] at hva
      obtain ⟨b9, rfl, hb9⟩ := hva
      refine W.eq (g2 := F0 m 154 ls [.ref b9]) rfl ?_
      refine gh_reta hAe C V hr (by first | exact Or.inl ⟨_, rfl⟩ | exact Or.inr ⟨_, rfl⟩) (by first | exact Or.inl rfl | exact Or.inr ⟨_, rfl⟩) hlocks d_Ru_onlyValue_154 (by first | decide | omega | (dsimp only; omega)) (by first | decide | omega | (dsimp only; omega)) ?_
      have hlf : sr_leaf cb pt X Y = sr_itm X (cb (pt + 1)) := by unfold sr_leaf; rw [if_neg (by omega), if_neg (by omega), if_pos hk]
      rw [hlf]
      exact ⟨by rw [ho]; exact ⟨_, rfl, hb9⟩, gh_fr.rf⟩
  · rw [hk]
    have hnm := qw_num hqw (by omega)
    refine lv_tableIn (off := 144) (tgt := 155) hx hb d_Ru_onlyValue_11 (by decide) (by decide) (by decide) (by decide) ?_
    refine lv_aload_n hx hb d_Ru_onlyValue_155 rfl (lv_at hl 0 rfl) ?_
    refine gh_get C V h1R gc_Ru gi_Ru 0 (by decide) f_Ru_13 rfl rfl d_Ru_onlyValue_156 ?_
    refine lv_aload_n hx hb d_Ru_onlyValue_159 rfl (lv_at hl 0 rfl) ?_
    refine gh_get C V h1R gc_Ru gi_Ru 4 (by decide) f_Ru_44 rfl rfl d_Ru_onlyValue_160 ?_
    refine lv_aload_n hx hb d_Ru_onlyValue_163 rfl (lv_at hl 1 rfl) ?_
    refine gh_get C V hs gc_St gi_St 0 (by decide) f_Ru_75 rfl rfl d_Ru_onlyValue_164 ?_
    refine gh_callV C V hl.1 m_Qu_numberOf l_Ru_233 (c_Qu_numberOf l E _ f (Z q0) (Z (q0 + 1)) (Z (q0 + 2)) N cb bg pt hN60 hqR hcdR hbaR hnm.1) rfl hqR gc_Qu ⟨by first | decide | omega | (dsimp only; omega), by first | decide | omega | (dsimp only; omega)⟩ ⟨by first | decide | omega | (dsimp only; omega), by first | decide | omega | (dsimp only; omega)⟩ (Nat.le_of_ble_eq_true rfl) rfl d_Ru_onlyValue_167 (fun r z9 H locs hp V => ?_)
    obtain ⟨rfl, he9⟩ := hp
    rw [he9] at V
    refine W.eq (g2 := F0 m 170 ls [.int (nI (cb (pt + 1)) - 128), .ref (Z 200)]) rfl ?_
    refine lv_i2l hx hb d_Ru_onlyValue_170 rfl ?_
    refine gh_callV C V hl.1 m_Vs_number l_Ru_240 (c_Vs_number l E _ f (rP ρ) (Z 200) (Z 201) (Z 202) (Z 203) (Z 204) (Z 205) (Z 3) ((nI (cb (pt + 1)) - 128).toInt64) hVR hnon) rfl hvsR gc_Vs ⟨by first | decide | omega | (dsimp only; omega), by first | decide | omega | (dsimp only; omega)⟩ ⟨by first | decide | omega | (dsimp only; omega), by first | decide | omega | (dsimp only; omega)⟩ (Nat.le_of_ble_eq_true rfl) rfl d_Ru_onlyValue_171 (fun r g9 H locs hp V => ?_)
    obtain ⟨⟨b9, rfl, hb9⟩, hfr9⟩ := hp
    refine W.eq (g2 := F0 m 174 ls [.ref b9]) rfl ?_
    refine gh_reta hAe C V hr (by first | exact Or.inl ⟨_, rfl⟩ | exact Or.inr ⟨_, rfl⟩) (by first | exact Or.inl rfl | exact Or.inr ⟨_, rfl⟩) hlocks d_Ru_onlyValue_174 (by first | decide | omega | (dsimp only; omega)) (by first | decide | omega | (dsimp only; omega)) ?_
    have hlf : sr_leaf cb pt X Y = some (vt_i (sr_num (cb (pt + 1))).toInt64) := by unfold sr_leaf; rw [if_neg (by omega), if_neg (by omega), if_neg (by omega), if_pos hk]
    rw [hlf]
    exact ⟨⟨_, rfl, hb9⟩, hfr9⟩
  · rw [hk]
    have hle := qw_let hqw (by omega)
    refine lv_tableIn (off := 164) (tgt := 175) hx hb d_Ru_onlyValue_11 (by decide) (by decide) (by decide) (by decide) ?_
    refine lv_aload_n hx hb d_Ru_onlyValue_175 rfl (lv_at hl 0 rfl) ?_
    refine gh_get C V h1R gc_Ru gi_Ru 0 (by decide) f_Ru_13 rfl rfl d_Ru_onlyValue_176 ?_
    refine lv_aload_n hx hb d_Ru_onlyValue_179 rfl (lv_at hl 0 rfl) ?_
    refine gh_get C V h1R gc_Ru gi_Ru 4 (by decide) f_Ru_44 rfl rfl d_Ru_onlyValue_180 ?_
    refine lv_aload_n hx hb d_Ru_onlyValue_183 rfl (lv_at hl 1 rfl) ?_
    refine gh_get C V hs gc_St gi_St 0 (by decide) f_Ru_75 rfl rfl d_Ru_onlyValue_184 ?_
    refine gh_callV C V hl.1 m_Qu_letterOf l_Ru_188 (c_Qu_letterOf l E _ f (Z q0) (Z (q0 + 1)) (Z (q0 + 2)) N cb bg pt hN60 hqR hcdR hbaR hle.1) rfl hqR gc_Qu ⟨by first | decide | omega | (dsimp only; omega), by first | decide | omega | (dsimp only; omega)⟩ ⟨by first | decide | omega | (dsimp only; omega), by first | decide | omega | (dsimp only; omega)⟩ (Nat.le_of_ble_eq_true rfl) rfl d_Ru_onlyValue_187 (fun r z9 H locs hp V => ?_)
    obtain ⟨rfl, he9⟩ := hp
    rw [he9] at V
    refine W.eq (g2 := F0 m 190 ls [.int (nI (cb (pt + 1))), .ref (Z 200)]) rfl ?_
    refine gh_callV C V hl.1 m_Vs_letter l_Ru_191 (c_Vs_letter l E _ f (rP ρ) (Z 200) (Z 201) (Z 202) (Z 203) (Z 204) (Z 205) (Z 3) (cb (pt + 1)) hVR hnon ⟨hle.2.1, hle.2.2⟩) rfl hvsR gc_Vs ⟨by first | decide | omega | (dsimp only; omega), by first | decide | omega | (dsimp only; omega)⟩ ⟨by first | decide | omega | (dsimp only; omega), by first | decide | omega | (dsimp only; omega)⟩ (Nat.le_of_ble_eq_true rfl) rfl d_Ru_onlyValue_190 (fun r z9 H locs hp V => ?_)
    obtain ⟨⟨ac, rfl, hac⟩, he9⟩ := hp
    rw [he9] at V hac
    refine W.eq (g2 := F0 m 193 ls [.ref ac]) rfl ?_
    refine gh_reta hAe C V hr (by first | exact Or.inl ⟨_, rfl⟩ | exact Or.inr ⟨_, rfl⟩) (by first | exact Or.inl rfl | exact Or.inr ⟨_, rfl⟩) hlocks d_Ru_onlyValue_193 (by first | decide | omega | (dsimp only; omega)) (by first | decide | omega | (dsimp only; omega)) ?_
    have hlf : sr_leaf cb pt X Y = some (vt_t [nI (cb (pt + 1))]) := by unfold sr_leaf; rw [if_neg (by omega), if_neg (by omega), if_neg (by omega), if_neg (by omega), if_pos hk]
    rw [hlf]
    exact ⟨⟨_, rfl, hac.cw (lt_ch (by omega))⟩, gh_fr.rf⟩
  · rw [hk]
    refine lv_tableIn (off := 183) (tgt := 194) hx hb d_Ru_onlyValue_11 (by decide) (by decide) (by decide) (by decide) ?_
    refine lv_aload_n hx hb d_Ru_onlyValue_194 rfl (lv_at hl 0 rfl) ?_
    refine gh_get C V h1R gc_Ru gi_Ru 0 (by decide) f_Ru_13 rfl rfl d_Ru_onlyValue_195 ?_
    refine gh_get C V hvsR gc_Vs gi_Vs 0 (by decide) f_Ru_54 rfl rfl d_Ru_onlyValue_198 ?_
    refine gh_reta hAe C V hr (by first | exact Or.inl ⟨_, rfl⟩ | exact Or.inr ⟨_, rfl⟩) (by first | exact Or.inl rfl | exact Or.inr ⟨_, rfl⟩) hlocks d_Ru_onlyValue_201 (by first | decide | omega | (dsimp only; omega)) (by first | decide | omega | (dsimp only; omega)) ?_
    have hlf : sr_leaf cb pt X Y = some (vt_0 0) := by unfold sr_leaf; rw [if_neg (by omega), if_neg (by omega), if_neg (by omega), if_neg (by omega), if_neg (by omega), if_pos hk]
    rw [hlf]
    exact ⟨⟨_, rfl, hnuR⟩, gh_fr.rf⟩
  · rw [hk]
    refine lv_tableIn (off := 191) (tgt := 202) hx hb d_Ru_onlyValue_11 (by decide) (by decide) (by decide) (by decide) ?_
    refine lv_aload_n hx hb d_Ru_onlyValue_202 rfl (lv_at hl 1 rfl) ?_
    refine gh_get C V hs gc_St gi_St 3 (by decide) f_Ru_84 rfl rfl d_Ru_onlyValue_203 ?_
    refine gh_reta hAe C V hr (by first | exact Or.inl ⟨_, rfl⟩ | exact Or.inr ⟨_, rfl⟩) (by first | exact Or.inl rfl | exact Or.inr ⟨_, rfl⟩) hlocks d_Ru_onlyValue_206 (by first | decide | omega | (dsimp only; omega)) (by first | decide | omega | (dsimp only; omega)) ?_
    have hlf : sr_leaf cb pt X Y = some Y := by unfold sr_leaf; rw [if_neg (by omega), if_neg (by omega), if_neg (by omega), if_neg (by omega), if_neg (by omega), if_neg (by omega), if_pos hk]
    rw [hlf]
    exact ⟨⟨_, rfl, hel⟩, gh_fr.rf⟩
  · rw [hk]
    refine lv_tableIn (off := 244) (tgt := 255) hx hb d_Ru_onlyValue_11 (by decide) (by decide) (by decide) (by decide) ?_
    refine lv_null hx hb d_Ru_onlyValue_255 ?_
    refine gh_reta hAe C V hr (by first | exact Or.inl ⟨_, rfl⟩ | exact Or.inr ⟨_, rfl⟩) (by first | exact Or.inl rfl | exact Or.inr ⟨_, rfl⟩) hlocks d_Ru_onlyValue_256 (by first | decide | omega | (dsimp only; omega)) (by first | decide | omega | (dsimp only; omega)) ?_
    have hlf : sr_leaf cb pt X Y = none := by unfold sr_leaf; rw [if_neg (by omega), if_neg (by omega), if_neg (by omega), if_neg (by omega), if_neg (by omega), if_neg (by omega), if_neg (by omega), if_neg (by omega), if_neg (by omega), if_neg (by omega)]
    rw [hlf]
    exact ⟨rfl, gh_fr.rf⟩
  · rw [hk]
    refine lv_tableIn (off := 196) (tgt := 207) hx hb d_Ru_onlyValue_11 (by decide) (by decide) (by decide) (by decide) ?_
    refine lv_aload_n hx hb d_Ru_onlyValue_207 rfl (lv_at hl 0 rfl) ?_
    refine gh_get C V h1R gc_Ru gi_Ru 0 (by decide) f_Ru_13 rfl rfl d_Ru_onlyValue_208 ?_
    refine lv_aload_n hx hb d_Ru_onlyValue_211 rfl (lv_at hl 2 rfl) ?_
    obtain ⟨vs9, hvs9⟩ := hit.cell
    refine gh_callV C V hl.1 m_Va_isTruthy l_Ru_165 (c_Va_isTruthy l E _ f (rP ρ) it X hit) rfl hvs9 gc_Va ⟨by first | decide | omega | (dsimp only; omega), by first | decide | omega | (dsimp only; omega)⟩ ⟨by first | decide | omega | (dsimp only; omega), by first | decide | omega | (dsimp only; omega)⟩ (Nat.le_of_ble_eq_true rfl) rfl d_Ru_onlyValue_212 (fun r z9 H locs hp V => ?_)
    obtain ⟨rfl, he9⟩ := hp
    rw [he9] at V
    refine W.eq (g2 := F0 m 215 ls [.int (gh_bi (vt_tr X)), .ref (Z 200)]) rfl ?_
    refine lv_if_ne (tgt := 222) hx hb d_Ru_onlyValue_215 (by decide) (fun c1 => ?_) (fun c1 => ?_)
    · have c1 : (vt_tr X) = true := gh_bi_1 c1
      refine lv_iconst (v := 0) hx hb d_Ru_onlyValue_222 (by decide) ?_
      refine gh_callV C V hl.1 m_Vs_truth l_Ru_215 (c_Vs_truth l E _ f (rP ρ) (Z 200) (Z 201) (Z 202) (Z 203) (Z 204) (Z 205) (Z 3) false hVR hnon) rfl hvsR gc_Vs ⟨by first | decide | omega | (dsimp only; omega), by first | decide | omega | (dsimp only; omega)⟩ ⟨by first | decide | omega | (dsimp only; omega), by first | decide | omega | (dsimp only; omega)⟩ (Nat.le_of_ble_eq_true rfl) rfl d_Ru_onlyValue_223 (fun r z9 H locs hp V => ?_)
      obtain ⟨⟨b9, rfl, hb9⟩, he9⟩ := hp
      rw [he9] at V hb9
      refine W.eq (g2 := F0 m 226 ls [.ref b9]) rfl ?_
      refine gh_reta hAe C V hr (by first | exact Or.inl ⟨_, rfl⟩ | exact Or.inr ⟨_, rfl⟩) (by first | exact Or.inl rfl | exact Or.inr ⟨_, rfl⟩) hlocks d_Ru_onlyValue_226 (by first | decide | omega | (dsimp only; omega)) (by first | decide | omega | (dsimp only; omega)) ?_
      have hlf : sr_leaf cb pt X Y = some (vt_0 (if vt_tr X then 1 else 2)) := by unfold sr_leaf; rw [if_neg (by omega), if_neg (by omega), if_neg (by omega), if_neg (by omega), if_neg (by omega), if_neg (by omega), if_neg (by omega), if_pos hk]
      rw [hlf]
      exact ⟨⟨_, rfl, by rw [c1]; exact hb9⟩, gh_fr.rf⟩
    · have c1 : (vt_tr X) = false := gh_bi_0 c1
      refine lv_iconst (v := 1) hx hb d_Ru_onlyValue_218 (by decide) ?_
      refine lv_goto (tgt := 223) hx hb d_Ru_onlyValue_219 (by decide) ?_
      refine gh_callV C V hl.1 m_Vs_truth l_Ru_215 (c_Vs_truth l E _ f (rP ρ) (Z 200) (Z 201) (Z 202) (Z 203) (Z 204) (Z 205) (Z 3) true hVR hnon) rfl hvsR gc_Vs ⟨by first | decide | omega | (dsimp only; omega), by first | decide | omega | (dsimp only; omega)⟩ ⟨by first | decide | omega | (dsimp only; omega), by first | decide | omega | (dsimp only; omega)⟩ (Nat.le_of_ble_eq_true rfl) rfl d_Ru_onlyValue_223 (fun r z9 H locs hp V => ?_)
      obtain ⟨⟨b9, rfl, hb9⟩, he9⟩ := hp
      rw [he9] at V hb9
      refine W.eq (g2 := F0 m 226 ls [.ref b9]) rfl ?_
      refine gh_reta hAe C V hr (by first | exact Or.inl ⟨_, rfl⟩ | exact Or.inr ⟨_, rfl⟩) (by first | exact Or.inl rfl | exact Or.inr ⟨_, rfl⟩) hlocks d_Ru_onlyValue_226 (by first | decide | omega | (dsimp only; omega)) (by first | decide | omega | (dsimp only; omega)) ?_
      have hlf : sr_leaf cb pt X Y = some (vt_0 (if vt_tr X then 1 else 2)) := by unfold sr_leaf; rw [if_neg (by omega), if_neg (by omega), if_neg (by omega), if_neg (by omega), if_neg (by omega), if_neg (by omega), if_neg (by omega), if_pos hk]
      rw [hlf]
      exact ⟨⟨_, rfl, by rw [c1]; exact hb9⟩, gh_fr.rf⟩
  · rw [hk]
    refine lv_tableIn (off := 216) (tgt := 227) hx hb d_Ru_onlyValue_11 (by decide) (by decide) (by decide) (by decide) ?_
    refine lv_aload_n hx hb d_Ru_onlyValue_227 rfl (lv_at hl 0 rfl) ?_
    refine lv_aload_n hx hb d_Ru_onlyValue_228 rfl (lv_at hl 2 rfl) ?_
    refine gh_callV C V hl.1 m_Ru_length l_Ru_244 (c_Ru_length l E _ f ρ Z q0 N cb bg φ b s0 e0 it X hR hit) rfl h1R gc_Ru ⟨by first | decide | omega | (dsimp only; omega), by first | decide | omega | (dsimp only; omega)⟩ ⟨by first | decide | omega | (dsimp only; omega), by first | decide | omega | (dsimp only; omega)⟩ (Nat.le_of_ble_eq_true rfl) rfl d_Ru_onlyValue_229 (fun r g9 H locs hp V => ?_)
    obtain ⟨hva, hfr9⟩ := hp
    cases ho : sr_len X with
    | none =>
      rw [ho] at hva
      have hva : r = some .null := hva
      subst hva
      refine W.eq (g2 := F0 m 232 ls [.null]) rfl ?_
      refine gh_reta hAe C V hr (by first | exact Or.inl ⟨_, rfl⟩ | exact Or.inr ⟨_, rfl⟩) (by first | exact Or.inl rfl | exact Or.inr ⟨_, rfl⟩) hlocks d_Ru_onlyValue_232 (by first | decide | omega | (dsimp only; omega)) (by first | decide | omega | (dsimp only; omega)) ?_
      have hlf : sr_leaf cb pt X Y = sr_len X := by unfold sr_leaf; rw [if_neg (by omega), if_neg (by omega), if_neg (by omega), if_neg (by omega), if_neg (by omega), if_neg (by omega), if_neg (by omega), if_neg (by omega), if_pos hk]
      rw [hlf]
      exact ⟨by rw [ho]; exact rfl, hfr9⟩
    | some M9 =>
      rw [ho] at hva
      obtain ⟨b9, rfl, hb9⟩ := hva
      refine W.eq (g2 := F0 m 232 ls [.ref b9]) rfl ?_
      refine gh_reta hAe C V hr (by first | exact Or.inl ⟨_, rfl⟩ | exact Or.inr ⟨_, rfl⟩) (by first | exact Or.inl rfl | exact Or.inr ⟨_, rfl⟩) hlocks d_Ru_onlyValue_232 (by first | decide | omega | (dsimp only; omega)) (by first | decide | omega | (dsimp only; omega)) ?_
      have hlf : sr_leaf cb pt X Y = sr_len X := by unfold sr_leaf; rw [if_neg (by omega), if_neg (by omega), if_neg (by omega), if_neg (by omega), if_neg (by omega), if_neg (by omega), if_neg (by omega), if_neg (by omega), if_pos hk]
      rw [hlf]
      exact ⟨by rw [ho]; exact ⟨_, rfl, hb9⟩, hfr9⟩
  · rw [hk]
    refine lv_tableIn (off := 222) (tgt := 233) hx hb d_Ru_onlyValue_11 (by decide) (by decide) (by decide) (by decide) ?_
    refine lv_aload_n hx hb d_Ru_onlyValue_233 rfl (lv_at hl 2 rfl) ?_
    obtain ⟨la_2, ka_2, ia_2, gk_2, gi_2, K_2, B_2, hp_2, h0_2, h1_2, h2_2, h3_2, h4_2, h5_2⟩ := cv_o.mp hit.1
    refine gh_get C V h0_2 gc_Va gi_Va 0 (by decide) f_Ru_185 rfl rfl d_Ru_onlyValue_234 ?_
    refine lv_bipush (v := 6) hx hb d_Ru_onlyValue_237 (by decide) ?_
    refine lv_icmp_ne (tgt := 253) hx hb d_Ru_onlyValue_239 (by decide) (fun c3 => ?_) (fun c3 => ?_)
    · have c3 : ¬ (vt_k X) = 6 := by rw [← gq_eq (a := vt_k X) (b := 6) (by omega) (by omega)]; exact c3
      refine lv_null hx hb d_Ru_onlyValue_253 ?_
      refine gh_reta hAe C V hr (by first | exact Or.inl ⟨_, rfl⟩ | exact Or.inr ⟨_, rfl⟩) (by first | exact Or.inl rfl | exact Or.inr ⟨_, rfl⟩) hlocks d_Ru_onlyValue_254 (by first | decide | omega | (dsimp only; omega)) (by first | decide | omega | (dsimp only; omega)) ?_
      have hlf : sr_leaf cb pt X Y = if vt_k X = 6 then some (vt_ks X) else none := by unfold sr_leaf; rw [if_neg (by omega), if_neg (by omega), if_neg (by omega), if_neg (by omega), if_neg (by omega), if_neg (by omega), if_neg (by omega), if_neg (by omega), if_neg (by omega), if_pos hk]
      rw [hlf]
      exact ⟨by rw [if_neg c3]; exact rfl, gh_fr.rf⟩
    · have c3 : (vt_k X) = 6 := by rw [← gq_eq (a := vt_k X) (b := 6) (by omega) (by omega)]; exact c3
      refine lv_aload_n hx hb d_Ru_onlyValue_242 rfl (lv_at hl 0 rfl) ?_
      refine gh_get C V h1R gc_Ru gi_Ru 0 (by decide) f_Ru_13 rfl rfl d_Ru_onlyValue_243 ?_
      refine lv_aload_n hx hb d_Ru_onlyValue_246 rfl (lv_at hl 2 rfl) ?_
      refine gh_callV C V hl.1 m_Vs_keysOf l_Ru_248 (c_Vs_keysOf l E _ f (rP ρ) (Z 200) (Z 201) (Z 202) (Z 203) (Z 204) (Z 205) (Z 3) it X hVR hnon hit) rfl hvsR gc_Vs ⟨by first | decide | omega | (dsimp only; omega), by first | decide | omega | (dsimp only; omega)⟩ ⟨by first | decide | omega | (dsimp only; omega), by first | decide | omega | (dsimp only; omega)⟩ (Nat.le_of_ble_eq_true rfl) rfl d_Ru_onlyValue_247 (fun r g9 H locs hp V => ?_)
      obtain ⟨⟨b9, rfl, hb9⟩, hfr9⟩ := hp
      refine W.eq (g2 := F0 m 250 ls [.ref b9]) rfl ?_
      refine lv_goto (tgt := 254) hx hb d_Ru_onlyValue_250 (by decide) ?_
      refine gh_reta hAe C V hr (by first | exact Or.inl ⟨_, rfl⟩ | exact Or.inr ⟨_, rfl⟩) (by first | exact Or.inl rfl | exact Or.inr ⟨_, rfl⟩) hlocks d_Ru_onlyValue_254 (by first | decide | omega | (dsimp only; omega)) (by first | decide | omega | (dsimp only; omega)) ?_
      have hlf : sr_leaf cb pt X Y = if vt_k X = 6 then some (vt_ks X) else none := by unfold sr_leaf; rw [if_neg (by omega), if_neg (by omega), if_neg (by omega), if_neg (by omega), if_neg (by omega), if_neg (by omega), if_neg (by omega), if_neg (by omega), if_neg (by omega), if_pos hk]
      rw [hlf]
      exact ⟨by rw [if_pos c3]; exact ⟨_, rfl, hb9⟩, hfr9⟩
theorem d_Ru_askOnlyValue_0 : decode b_Ru_askOnlyValue 0 = .ok (.aload_n 1, 1) := by decide +kernel
theorem d_Ru_askOnlyValue_1 : decode b_Ru_askOnlyValue 1 = .ok (.getfield 94, 3) := by decide +kernel
theorem d_Ru_askOnlyValue_4 : decode b_Ru_askOnlyValue 4 = .ok (.ifCond .le 7, 3) := by decide +kernel
theorem d_Ru_askOnlyValue_7 : decode b_Ru_askOnlyValue 7 = .ok (.iconst 0, 1) := by decide +kernel
theorem d_Ru_askOnlyValue_8 : decode b_Ru_askOnlyValue 8 = .ok (.goto 16, 3) := by decide +kernel
theorem d_Ru_askOnlyValue_11 : decode b_Ru_askOnlyValue 11 = .ok (.aload_n 1, 1) := by decide +kernel
theorem d_Ru_askOnlyValue_12 : decode b_Ru_askOnlyValue 12 = .ok (.aload_n 0, 1) := by decide +kernel
theorem d_Ru_askOnlyValue_13 : decode b_Ru_askOnlyValue 13 = .ok (.aload_n 1, 1) := by decide +kernel
theorem d_Ru_askOnlyValue_14 : decode b_Ru_askOnlyValue 14 = .ok (.aload_n 1, 1) := by decide +kernel
theorem d_Ru_askOnlyValue_15 : decode b_Ru_askOnlyValue 15 = .ok (.getfield 81, 3) := by decide +kernel
theorem d_Ru_askOnlyValue_18 : decode b_Ru_askOnlyValue 18 = .ok (.invokevirtual 226, 3) := by decide +kernel
theorem d_Ru_askOnlyValue_21 : decode b_Ru_askOnlyValue 21 = .ok (.invokestatic 175, 3) := by decide +kernel
theorem d_Ru_askOnlyValue_24 : decode b_Ru_askOnlyValue 24 = .ok (.ireturn, 1) := by decide +kernel
set_option maxHeartbeats 4000000 in
set_option maxRecDepth 100000 in
theorem c_Ru_askOnlyValue (l : Launch) (E : gh_E) (sz : Nat) (f : gh_F) (ρ Z : Nat → Nat) (q0 N : Nat) (cb bg : Nat → Nat) (φ b : Nat) (s0 e0 : Int32) (n u k : Nat) (v : vt) (T : sr) (F : Nat → Prop) (pt w9 it el gv pl va : Nat) (X Y : vt) (fi se : Option Nat) (hR : rn_R E ρ Z f q0 N cb bg φ b s0 e0) (hφb : φ + b ≤ 250) (hFb : ∀ j, F j → j < b) (hx9 : rs_x E ρ Z cb bg N f φ n u k v T F pt w9 it el gv pl va X Y fi se) (IH : rk_A l E ρ Z q0 N cb bg n) (hkd : cb pt = 0 ∨ cb pt = 1 ∨ cb pt = 2 ∨ cb pt = 5 ∨ cb pt = 6 ∨ cb pt = 7 ∨ cb pt = 15 ∨ cb pt = 18 ∨ cb pt = 19 ∨ cb pt = 20 ∨ cb pt = 21) : gh_M l y_Ru_askOnlyValue b_Ru_askOnlyValue 2 (some .int) E sz [.ref (Z 1), .ref (Z (1000 + k))] f { frames := 25 + 6 * n, cells := 3 * (min (sr_c T) φ + u), slots := 39 * (min (sr_c T) φ + u), locals := 870 + 200 * n } (rk_Q E ρ Z q0 N cb bg (n + 1) f φ b s0 e0 k v T F) := by
  obtain ⟨hs, ⟨hk250, hn19, hFk⟩, ⟨hqw, hq4, hq6⟩, ⟨hit, hel, hva⟩, ⟨q9, hq16, hzr, hgv⟩, hst⟩ := hx9
  have hkb := hFb k hFk
  have hptN := (qw_lt hqw).1
  have hX7 := (hit.le).2
  refine gh_open (by decide) (Nat.le_of_ble_eq_true rfl) ?_
  intro p e s m args below meth c A ls hAe C V hr hlocks hname hl
  have hx := C.1
  have hb := C.2.1
  have hl : lv_has ls 2 [(0, .ref (Z 1)), (1, .ref (Z (1000 + k)))] := hl
  have hRc := hR
  obtain ⟨h1R, ⟨hz, ⟨p206, p207⟩, ⟨gS, hgS, hgS2⟩, ⟨gG, hgG, hgG2⟩, hVR, hqR, hcdR, hbaR, hN60, hq0⟩, ⟨hgaV, hgaR⟩, hSR, hnon⟩ := hRc
  obtain ⟨pvsR, hvsR, hnuR, hnoR, hyeR, -⟩ := id hVR
  have hfr : gh_fr f f (rn_M ρ (20 - (n + 1)) b F) := gh_fr.rf
  have hpt60 : pt < 60 := by omega
  rcases hst with ⟨hu, hg0, hp0, hf0, hs0, hv0, hT⟩ | ⟨hu, hg1, hrun⟩
  · have hTf : T = sr_1 (sr_leaf cb pt X Y) := by rw [hT, sr_B_o, sr_part_0 (by omega)]
    refine lv_aload_n hx hb d_Ru_askOnlyValue_0 rfl (lv_at hl 1 rfl) ?_
    refine gh_get C V hs gc_St gi_St 6 (by decide) f_Ru_94 rfl rfl d_Ru_askOnlyValue_1 ?_
    refine lv_if_le (tgt := 11) hx hb d_Ru_askOnlyValue_4 (by decide) (fun c1 => ?_) (fun c1 => absurd (by rw [hg0]; decide) c1)
    refine lv_aload_n hx hb d_Ru_askOnlyValue_11 rfl (lv_at hl 1 rfl) ?_
    refine lv_aload_n hx hb d_Ru_askOnlyValue_12 rfl (lv_at hl 0 rfl) ?_
    refine lv_aload_n hx hb d_Ru_askOnlyValue_13 rfl (lv_at hl 1 rfl) ?_
    refine lv_aload_n hx hb d_Ru_askOnlyValue_14 rfl (lv_at hl 1 rfl) ?_
    refine gh_get C V hs gc_St gi_St 2 (by decide) f_Ru_81 rfl rfl d_Ru_askOnlyValue_15 ?_
    refine gh_callV C V hl.1 m_Ru_onlyValue l_Ru_226 (c_Ru_onlyValue l E _ f ρ Z q0 N cb bg φ b s0 e0 k pt w9 it el X Y _ _ _ _ _ _ hR hs hqw hit hel hkd) rfl h1R gc_Ru ⟨by first | decide | omega | (dsimp only; omega), by first | decide | omega | (dsimp only; omega)⟩ ⟨by first | decide | omega | (dsimp only; omega), by first | decide | omega | (dsimp only; omega)⟩ (Nat.le_of_ble_eq_true rfl) rfl d_Ru_askOnlyValue_18 (fun r g9 H locs hp V => ?_)
    obtain ⟨hva, hfr9⟩ := hp
    have hR := hR.keep0 hfr9
    have hs := hfr9.at hs (by simp)
    have hfr : gh_fr f g9 (rn_M ρ (20 - (n + 1)) b F) := hfr.tr hfr9 (fun _ _ _ z => absurd z (by simp))
    have hit := hit.keep hfr9 (fun _ z => absurd z (by simp))
    have hel := hel.keep hfr9 (fun _ z => absurd z (by simp))
    have hRc := hR
    obtain ⟨h1R, ⟨hz, ⟨p206, p207⟩, ⟨gS, hgS, hgS2⟩, ⟨gG, hgG, hgG2⟩, hVR, hqR, hcdR, hbaR, hN60, hq0⟩, ⟨hgaV, hgaR⟩, hSR, hnon⟩ := hRc
    obtain ⟨pvsR, hvsR, hnuR, hnoR, hyeR, -⟩ := id hVR
    cases ho : sr_leaf cb pt X Y with
    | none =>
      rw [ho] at hva
      have hva : r = some .null := hva
      subst hva
      refine W.eq (g2 := F0 m 21 ls [.null, .ref (Z (1000 + k))]) rfl ?_
      refine gh_callS C V hl.1 m_Ru_givesOrFails l_Ru_175 (c_Ru_givesOrFails0 l E _ g9 (Z (1000 + k))) rfl ⟨by first | decide | omega | (dsimp only; omega), by first | decide | omega | (dsimp only; omega)⟩ ⟨by first | decide | omega | (dsimp only; omega), by first | decide | omega | (dsimp only; omega)⟩ (Nat.le_of_ble_eq_true rfl) rfl d_Ru_askOnlyValue_21 (fun r z9 H locs hp V => ?_)
      obtain ⟨rfl, he9⟩ := hp
      rw [he9] at V
      refine W.eq (g2 := F0 m 24 ls [.int 1]) rfl ?_
      refine gh_reti hAe C V hr hlocks d_Ru_askOnlyValue_24 (by first | decide | omega | (dsimp only; omega)) (by first | decide | omega | (dsimp only; omega)) ?_
      exact ⟨φ, b, hR, ⟨by omega, by omega⟩, hfr, Or.inr (Or.inr (Or.inl ⟨0, by rw [hTf, ho]; rfl, by omega, rfl, by omega⟩)), fun z => absurd z (rv_ne (by decide))⟩
    | some M9 =>
      rw [ho] at hva
      obtain ⟨b9, rfl, hb9⟩ := hva
      refine W.eq (g2 := F0 m 21 ls [.ref b9, .ref (Z (1000 + k))]) rfl ?_
      refine gh_callS C V hl.1 m_Ru_givesOrFails l_Ru_175 (c_Ru_givesOrFails l E _ g9 ρ Z q0 N cb bg φ b s0 e0 k b9 gv _ _ _ _ _ _ _ _ hR hk250 hs) rfl ⟨by first | decide | omega | (dsimp only; omega), by first | decide | omega | (dsimp only; omega)⟩ ⟨by first | decide | omega | (dsimp only; omega), by first | decide | omega | (dsimp only; omega)⟩ (Nat.le_of_ble_eq_true rfl) rfl d_Ru_askOnlyValue_21 (fun r g2 H locs hp V => ?_)
      obtain ⟨rfl, hR, hs, hfrg⟩ := hp
      refine W.eq (g2 := F0 m 24 ls [.int 3]) rfl ?_
      have hMg : ∀ a, ρ a = 1000 + k → ¬ rP ρ a := fun a z z2 => by have z2 : ρ a = 0 := z2; omega
      have hfr : gh_fr f g2 (rn_M ρ (20 - (n + 1)) b F) := hfr.tr hfrg (fun a _ _ z => Or.inr (Or.inr (Or.inr (Or.inr ⟨k, hFk, z⟩))))
      have hit := hit.keep hfrg hMg
      have hel := hel.keep hfrg hMg
      refine gh_reti hAe C V hr hlocks d_Ru_askOnlyValue_24 (by first | decide | omega | (dsimp only; omega)) (by first | decide | omega | (dsimp only; omega)) ?_
      have hTe : T = sr_cons 0 M9 (sr_end 0) := by rw [hTf, ho]; rfl
      have hzr1 := hzr
      rw [hTe] at hzr1
      exact ⟨φ, b, hR, ⟨by omega, by omega⟩, hfr, Or.inr (Or.inr (Or.inr ⟨0, M9, sr_end 0, hTe, by omega, rfl, by omega, fun i => F i ∨ (b ≤ i ∧ i < b), rs_mk hs ⟨hk250, hn19, Or.inl hFk⟩ ⟨hqw, hq4, hq6⟩ hit hel (hb9.keep hfrg hMg) hq16 hzr1 hgv (by omega) (by omega) (rs_run_0 (by omega) rfl), fun _ z => z⟩)), fun z => absurd z (rv_ne (by decide))⟩
  · have hTr : T = sr_end 0 := hrun.2.2.2.2.2.2.2.2 (by omega)
    refine lv_aload_n hx hb d_Ru_askOnlyValue_0 rfl (lv_at hl 1 rfl) ?_
    refine gh_get C V hs gc_St gi_St 6 (by decide) f_Ru_94 rfl rfl d_Ru_askOnlyValue_1 ?_
    refine lv_if_le (tgt := 11) hx hb d_Ru_askOnlyValue_4 (by decide) (fun c3 => absurd c3 (nI_nle (by omega) (by omega))) (fun c3 => ?_)
    refine lv_iconst (v := 0) hx hb d_Ru_askOnlyValue_7 (by decide) ?_
    refine lv_goto (tgt := 24) hx hb d_Ru_askOnlyValue_8 (by decide) ?_
    refine gh_reti hAe C V hr hlocks d_Ru_askOnlyValue_24 (by first | decide | omega | (dsimp only; omega)) (by first | decide | omega | (dsimp only; omega)) ?_
    exact ⟨φ, b, hR, ⟨by omega, by omega⟩, hfr, Or.inr (Or.inl ⟨0, hTr, by omega, rfl, by omega⟩), fun _ => ⟨_, _, _, _, _, _, _, _, va, hs, hva⟩⟩
