/-! Reader.readInteger. Printed by wip/whole/gen_re3.py. -/
theorem kl_Re_138 : Cond.constantLong R_Re 138 (-9223372036854775808) ∈ g_tbl := g_in 595 (by decide +kernel) (by decide +kernel)
theorem kl_Re_140 : Cond.constantLong R_Re 140 (-9223372036854775807) ∈ g_tbl := g_in 596 (by decide +kernel) (by decide +kernel)
theorem kl_Re_142 : Cond.constantLong R_Re 142 10 ∈ g_tbl := g_in 597 (by decide +kernel) (by decide +kernel)
theorem ri_c3 {z : Int} {neg : Bool} {d : Nat} (h1 : -9223372036854775808 ≤ z) (h2 : z ≤ 0) (hd : d ≤ 9) : lg_cmp (Int64.ofInt z) ((rd_lL neg + lN d) / 10) < 0 ↔ 10 * z < rd_ls neg + (d : Int) := by
  have e10 : (10 : Int64).toInt = 10 := by decide
  have hls : -9223372036854775808 ≤ rd_ls neg ∧ rd_ls neg ≤ -9223372036854775807 := by cases neg <;> exact ⟨by decide, by decide⟩
  have hs : (rd_lL neg + lN d).toInt = rd_ls neg + (d : Int) := by
    rw [Int64.toInt_add, rd_lL_int, lN_toInt (by omega)]
    exact Int.bmod_eq_of_le (by omega) (by omega)
  have ht := (td_10 (q := rd_ls neg + (d : Int))).2 (by omega)
  have hq : ((rd_lL neg + lN d) / 10).toInt = -((-(rd_ls neg + (d : Int))) / 10) := by
    rw [Int64.toInt_div, hs, e10, ht]
    exact Int.bmod_eq_of_le (by omega) (by omega)
  rw [lg_lt, Int64.lt_iff_toInt_lt, ri_int h1 (by omega), hq]
  omega
theorem ri_n2 {z : Int} {d : Nat} : Int64.ofInt z * 10 - lN d = Int64.ofInt (10 * z - (d : Int)) := by rw [Int64.mul_comm]; exact ri_n
theorem d_Re_readInteger_0 : decode b_Re_readInteger 0 = .ok (.aload_n 0, 1) := by decide +kernel
theorem d_Re_readInteger_1 : decode b_Re_readInteger 1 = .ok (.invokevirtual 56, 3) := by decide +kernel
theorem d_Re_readInteger_4 : decode b_Re_readInteger 4 = .ok (.bipush 45, 2) := by decide +kernel
theorem d_Re_readInteger_6 : decode b_Re_readInteger 6 = .ok (.if_icmp .ne 7, 3) := by decide +kernel
theorem d_Re_readInteger_9 : decode b_Re_readInteger 9 = .ok (.iconst 1, 1) := by decide +kernel
theorem d_Re_readInteger_10 : decode b_Re_readInteger 10 = .ok (.goto 4, 3) := by decide +kernel
theorem d_Re_readInteger_13 : decode b_Re_readInteger 13 = .ok (.iconst 0, 1) := by decide +kernel
theorem d_Re_readInteger_14 : decode b_Re_readInteger 14 = .ok (.istore_n 1, 1) := by decide +kernel
theorem d_Re_readInteger_15 : decode b_Re_readInteger 15 = .ok (.iload_n 1, 1) := by decide +kernel
theorem d_Re_readInteger_16 : decode b_Re_readInteger 16 = .ok (.ifCond .eq 13, 3) := by decide +kernel
theorem d_Re_readInteger_19 : decode b_Re_readInteger 19 = .ok (.aload_n 0, 1) := by decide +kernel
theorem d_Re_readInteger_20 : decode b_Re_readInteger 20 = .ok (.dup, 1) := by decide +kernel
theorem d_Re_readInteger_21 : decode b_Re_readInteger 21 = .ok (.getfield 42, 3) := by decide +kernel
theorem d_Re_readInteger_24 : decode b_Re_readInteger 24 = .ok (.iconst 1, 1) := by decide +kernel
theorem d_Re_readInteger_25 : decode b_Re_readInteger 25 = .ok (.iadd, 1) := by decide +kernel
theorem d_Re_readInteger_26 : decode b_Re_readInteger 26 = .ok (.putfield 42, 3) := by decide +kernel
theorem d_Re_readInteger_29 : decode b_Re_readInteger 29 = .ok (.aload_n 0, 1) := by decide +kernel
theorem d_Re_readInteger_30 : decode b_Re_readInteger 30 = .ok (.invokevirtual 56, 3) := by decide +kernel
theorem d_Re_readInteger_33 : decode b_Re_readInteger 33 = .ok (.bipush 48, 2) := by decide +kernel
theorem d_Re_readInteger_35 : decode b_Re_readInteger 35 = .ok (.if_icmp .ne 22, 3) := by decide +kernel
theorem d_Re_readInteger_38 : decode b_Re_readInteger 38 = .ok (.aload_n 0, 1) := by decide +kernel
theorem d_Re_readInteger_39 : decode b_Re_readInteger 39 = .ok (.dup, 1) := by decide +kernel
theorem d_Re_readInteger_40 : decode b_Re_readInteger 40 = .ok (.getfield 42, 3) := by decide +kernel
theorem d_Re_readInteger_43 : decode b_Re_readInteger 43 = .ok (.iconst 1, 1) := by decide +kernel
theorem d_Re_readInteger_44 : decode b_Re_readInteger 44 = .ok (.iadd, 1) := by decide +kernel
theorem d_Re_readInteger_45 : decode b_Re_readInteger 45 = .ok (.putfield 42, 3) := by decide +kernel
theorem d_Re_readInteger_48 : decode b_Re_readInteger 48 = .ok (.aload_n 0, 1) := by decide +kernel
theorem d_Re_readInteger_49 : decode b_Re_readInteger 49 = .ok (.getfield 7, 3) := by decide +kernel
theorem d_Re_readInteger_52 : decode b_Re_readInteger 52 = .ok (.lconst 0, 1) := by decide +kernel
theorem d_Re_readInteger_53 : decode b_Re_readInteger 53 = .ok (.invokevirtual 129, 3) := by decide +kernel
theorem d_Re_readInteger_56 : decode b_Re_readInteger 56 = .ok (.areturn, 1) := by decide +kernel
theorem d_Re_readInteger_57 : decode b_Re_readInteger 57 = .ok (.aload_n 0, 1) := by decide +kernel
theorem d_Re_readInteger_58 : decode b_Re_readInteger 58 = .ok (.invokevirtual 56, 3) := by decide +kernel
theorem d_Re_readInteger_61 : decode b_Re_readInteger 61 = .ok (.invokestatic 133, 3) := by decide +kernel
theorem d_Re_readInteger_64 : decode b_Re_readInteger 64 = .ok (.ifCond .ne 8, 3) := by decide +kernel
theorem d_Re_readInteger_67 : decode b_Re_readInteger 67 = .ok (.aload_n 0, 1) := by decide +kernel
theorem d_Re_readInteger_68 : decode b_Re_readInteger 68 = .ok (.invokevirtual 52, 3) := by decide +kernel
theorem d_Re_readInteger_71 : decode b_Re_readInteger 71 = .ok (.areturn, 1) := by decide +kernel
theorem d_Re_readInteger_72 : decode b_Re_readInteger 72 = .ok (.iload_n 1, 1) := by decide +kernel
theorem d_Re_readInteger_73 : decode b_Re_readInteger 73 = .ok (.ifCond .eq 9, 3) := by decide +kernel
theorem d_Re_readInteger_76 : decode b_Re_readInteger 76 = .ok (.ldc2_w 138, 3) := by decide +kernel
theorem d_Re_readInteger_79 : decode b_Re_readInteger 79 = .ok (.goto 6, 3) := by decide +kernel
theorem d_Re_readInteger_82 : decode b_Re_readInteger 82 = .ok (.ldc2_w 140, 3) := by decide +kernel
theorem d_Re_readInteger_85 : decode b_Re_readInteger 85 = .ok (.lstore_n 2, 1) := by decide +kernel
theorem d_Re_readInteger_86 : decode b_Re_readInteger 86 = .ok (.lconst 0, 1) := by decide +kernel
theorem d_Re_readInteger_87 : decode b_Re_readInteger 87 = .ok (.lstore 4, 2) := by decide +kernel
theorem d_Re_readInteger_89 : decode b_Re_readInteger 89 = .ok (.aload_n 0, 1) := by decide +kernel
theorem d_Re_readInteger_90 : decode b_Re_readInteger 90 = .ok (.getfield 42, 3) := by decide +kernel
theorem d_Re_readInteger_93 : decode b_Re_readInteger 93 = .ok (.aload_n 0, 1) := by decide +kernel
theorem d_Re_readInteger_94 : decode b_Re_readInteger 94 = .ok (.getfield 39, 3) := by decide +kernel
theorem d_Re_readInteger_97 : decode b_Re_readInteger 97 = .ok (.if_icmp .ge 77, 3) := by decide +kernel
theorem d_Re_readInteger_100 : decode b_Re_readInteger 100 = .ok (.aload_n 0, 1) := by decide +kernel
theorem d_Re_readInteger_101 : decode b_Re_readInteger 101 = .ok (.getfield 30, 3) := by decide +kernel
theorem d_Re_readInteger_104 : decode b_Re_readInteger 104 = .ok (.aload_n 0, 1) := by decide +kernel
theorem d_Re_readInteger_105 : decode b_Re_readInteger 105 = .ok (.getfield 42, 3) := by decide +kernel
theorem d_Re_readInteger_108 : decode b_Re_readInteger 108 = .ok (.caload, 1) := by decide +kernel
theorem d_Re_readInteger_109 : decode b_Re_readInteger 109 = .ok (.invokestatic 133, 3) := by decide +kernel
theorem d_Re_readInteger_112 : decode b_Re_readInteger 112 = .ok (.ifCond .eq 62, 3) := by decide +kernel
theorem d_Re_readInteger_115 : decode b_Re_readInteger 115 = .ok (.aload_n 0, 1) := by decide +kernel
theorem d_Re_readInteger_116 : decode b_Re_readInteger 116 = .ok (.getfield 30, 3) := by decide +kernel
theorem d_Re_readInteger_119 : decode b_Re_readInteger 119 = .ok (.aload_n 0, 1) := by decide +kernel
theorem d_Re_readInteger_120 : decode b_Re_readInteger 120 = .ok (.getfield 42, 3) := by decide +kernel
theorem d_Re_readInteger_123 : decode b_Re_readInteger 123 = .ok (.caload, 1) := by decide +kernel
theorem d_Re_readInteger_124 : decode b_Re_readInteger 124 = .ok (.bipush 48, 2) := by decide +kernel
theorem d_Re_readInteger_126 : decode b_Re_readInteger 126 = .ok (.isub, 1) := by decide +kernel
theorem d_Re_readInteger_127 : decode b_Re_readInteger 127 = .ok (.istore 6, 2) := by decide +kernel
theorem d_Re_readInteger_129 : decode b_Re_readInteger 129 = .ok (.lload 4, 2) := by decide +kernel
theorem d_Re_readInteger_131 : decode b_Re_readInteger 131 = .ok (.lload_n 2, 1) := by decide +kernel
theorem d_Re_readInteger_132 : decode b_Re_readInteger 132 = .ok (.iload 6, 2) := by decide +kernel
theorem d_Re_readInteger_134 : decode b_Re_readInteger 134 = .ok (.i2l, 1) := by decide +kernel
theorem d_Re_readInteger_135 : decode b_Re_readInteger 135 = .ok (.ladd, 1) := by decide +kernel
theorem d_Re_readInteger_136 : decode b_Re_readInteger 136 = .ok (.ldc2_w 142, 3) := by decide +kernel
theorem d_Re_readInteger_139 : decode b_Re_readInteger 139 = .ok (.ldiv, 1) := by decide +kernel
theorem d_Re_readInteger_140 : decode b_Re_readInteger 140 = .ok (.lcmp, 1) := by decide +kernel
theorem d_Re_readInteger_141 : decode b_Re_readInteger 141 = .ok (.ifCond .ge 8, 3) := by decide +kernel
theorem d_Re_readInteger_144 : decode b_Re_readInteger 144 = .ok (.aload_n 0, 1) := by decide +kernel
theorem d_Re_readInteger_145 : decode b_Re_readInteger 145 = .ok (.invokevirtual 52, 3) := by decide +kernel
theorem d_Re_readInteger_148 : decode b_Re_readInteger 148 = .ok (.areturn, 1) := by decide +kernel
theorem d_Re_readInteger_149 : decode b_Re_readInteger 149 = .ok (.lload 4, 2) := by decide +kernel
theorem d_Re_readInteger_151 : decode b_Re_readInteger 151 = .ok (.ldc2_w 142, 3) := by decide +kernel
theorem d_Re_readInteger_154 : decode b_Re_readInteger 154 = .ok (.lmul, 1) := by decide +kernel
theorem d_Re_readInteger_155 : decode b_Re_readInteger 155 = .ok (.iload 6, 2) := by decide +kernel
theorem d_Re_readInteger_157 : decode b_Re_readInteger 157 = .ok (.i2l, 1) := by decide +kernel
theorem d_Re_readInteger_158 : decode b_Re_readInteger 158 = .ok (.lsub, 1) := by decide +kernel
theorem d_Re_readInteger_159 : decode b_Re_readInteger 159 = .ok (.lstore 4, 2) := by decide +kernel
theorem d_Re_readInteger_161 : decode b_Re_readInteger 161 = .ok (.aload_n 0, 1) := by decide +kernel
theorem d_Re_readInteger_162 : decode b_Re_readInteger 162 = .ok (.dup, 1) := by decide +kernel
theorem d_Re_readInteger_163 : decode b_Re_readInteger 163 = .ok (.getfield 42, 3) := by decide +kernel
theorem d_Re_readInteger_166 : decode b_Re_readInteger 166 = .ok (.iconst 1, 1) := by decide +kernel
theorem d_Re_readInteger_167 : decode b_Re_readInteger 167 = .ok (.iadd, 1) := by decide +kernel
theorem d_Re_readInteger_168 : decode b_Re_readInteger 168 = .ok (.putfield 42, 3) := by decide +kernel
theorem d_Re_readInteger_171 : decode b_Re_readInteger 171 = .ok (.goto (-82), 3) := by decide +kernel
theorem d_Re_readInteger_174 : decode b_Re_readInteger 174 = .ok (.aload_n 0, 1) := by decide +kernel
theorem d_Re_readInteger_175 : decode b_Re_readInteger 175 = .ok (.getfield 7, 3) := by decide +kernel
theorem d_Re_readInteger_178 : decode b_Re_readInteger 178 = .ok (.iload_n 1, 1) := by decide +kernel
theorem d_Re_readInteger_179 : decode b_Re_readInteger 179 = .ok (.ifCond .eq 8, 3) := by decide +kernel
theorem d_Re_readInteger_182 : decode b_Re_readInteger 182 = .ok (.lload 4, 2) := by decide +kernel
theorem d_Re_readInteger_184 : decode b_Re_readInteger 184 = .ok (.goto 6, 3) := by decide +kernel
theorem d_Re_readInteger_187 : decode b_Re_readInteger 187 = .ok (.lload 4, 2) := by decide +kernel
theorem d_Re_readInteger_189 : decode b_Re_readInteger 189 = .ok (.lneg, 1) := by decide +kernel
theorem d_Re_readInteger_190 : decode b_Re_readInteger 190 = .ok (.invokevirtual 129, 3) := by decide +kernel
theorem d_Re_readInteger_193 : decode b_Re_readInteger 193 = .ok (.areturn, 1) := by decide +kernel
set_option maxHeartbeats 4000000 in
set_option maxRecDepth 100000 in
theorem c_Re_readInteger (l : Launch) (E : gh_E) (sz : Nat) (f : gh_F) (ρ Z tx : Nat → Nat) (n pl : Nat) (bd : Int32) (hA : re_A E ρ Z tx n f pl bd) (hp : pl ≤ n) : gh_M l y_Re_readInteger b_Re_readInteger 7 (some (.object "QueryMachine$Value")) E sz [.ref (Z 8)] f { frames := 3, cells := 1, slots := 7, locals := 120 } (fun r g => re_O E ρ Z tx n g bd ((rd_i tx n false pl).1, (rd_i tx n false pl).2.map vt_i) r ∧ gh_fr f g (re_M ρ 8)) := by
  refine gh_open (by decide) (Nat.le_of_ble_eq_true rfl) ?_
  intro p e s m args below meth c A ls hAe C V hr hlocks hname hl
  have hx := C.1
  have hb := C.2.1
  have hl : lv_has ls 7 [(0, .ref (Z 8))] := hl
  have h120 := hA.n
  have hfr : gh_fr f f (re_M ρ 8) := gh_fr.rf
  have hch := fun q => hA.ch q
  have hc0 := (hch pl).1
  refine lv_aload_n hx hb d_Re_readInteger_0 rfl (lv_at hl 0 rfl) ?_
  refine gh_callV C V hl.1 m_Re_sign l_Re_56 (c_Re_sign l E _ _ ρ Z tx n pl bd hA (by omega)) rfl hA.1 gc_Re ⟨by first | decide | omega | (dsimp only; omega), by first | decide | omega | (dsimp only; omega)⟩ ⟨by first | decide | omega | (dsimp only; omega), by first | decide | omega | (dsimp only; omega)⟩ (Nat.le_of_ble_eq_true rfl) rfl d_Re_readInteger_1 (fun r g1_ H locs hp9 V1 => ?_)
  obtain ⟨rfl, he9⟩ := hp9
  rw [he9] at V1
  have V := V1
  refine W.eq (g2 := F0 m 4 ls [.int (nI (sg tx n pl))]) rfl ?_
  by_cases h45 : sg tx n pl = 45
  · have hpn0 := sg_lt (by omega : sg tx n pl ≠ 0)
    have hRj := rd_i_n (zb := false) h45
    refine lv_bipush (v := 45) hx hb d_Re_readInteger_4 (by decide) ?_
    refine lv_icmp_ne (tgt := 13) hx hb d_Re_readInteger_6 (by decide) (fun c1 => absurd (by rw [h45]; rfl) c1) (fun c1 => ?_)
    refine lv_iconst (v := 1) hx hb d_Re_readInteger_9 (by decide) ?_
    refine lv_goto (tgt := 14) hx hb d_Re_readInteger_10 (by decide) ?_
    refine lv_istore_n hx hb d_Re_readInteger_14 rfl hl (by decide) rfl (fun ls hl => ?_)
    have hl : lv_has ls 7 [(1, .int 1), (0, .ref (Z 8))] := hl
    refine lv_iload_n hx hb d_Re_readInteger_15 rfl (lv_at hl 0 rfl) ?_
    refine lv_if_eq (tgt := 29) hx hb d_Re_readInteger_16 (by decide) (fun c2 => absurd c2 (by decide)) (fun c2 => ?_)
    refine lv_aload_n hx hb d_Re_readInteger_19 rfl (lv_at hl 1 rfl) ?_
    refine lv_dup hx hb d_Re_readInteger_20 rfl ?_
    refine gh_get C V hA.1 gc_Re gi_Re 5 (by decide) f_Re_42 rfl rfl d_Re_readInteger_21 ?_
    refine lv_iconst (v := 1) hx hb d_Re_readInteger_24 (by decide) ?_
    refine gn_iadd (a := pl) (b := 1) hx hb d_Re_readInteger_25 ?_
    refine gh_put C V hA.1 gc_Re gi_Re ty_Re nm_Re 5 (by decide) f_Re_42 rfl rfl rfl (Nat.le_of_ble_eq_true rfl) d_Re_readInteger_26 (fun H locs V1 => ?_)
    obtain ⟨fa2, hffa2⟩ : ∃ z9 : gh_F, z9 = gh_u f (Z 8) (.inr (3, [.ref (Z 200), .ref (Z 208), .ref (Z 9), .ref (Z 7), .int (nI n), .int (nI (pl + 1)), .int bd])) := ⟨_, rfl⟩
    have V : gh_V E A fa2 s H locs := by rw [hffa2]; exact V1
    have hA2 : re_A E ρ Z tx n fa2 (pl + 1) bd ∧ gh_fr f fa2 (re_M ρ 8) := by rw [hffa2]; exact hA.own
    have hA := hA2.1
    have hfr := re_tr hfr hA2.2 (by omega)
    have hc2 := (hch (pl + 1)).1
    refine lv_aload_n hx hb d_Re_readInteger_29 rfl (lv_at hl 1 rfl) ?_
    refine gh_callV C V hl.1 m_Re_sign l_Re_56 (c_Re_sign l E _ _ ρ Z tx n (pl + 1) bd hA (by omega)) rfl hA.1 gc_Re ⟨by first | decide | omega | (dsimp only; omega), by first | decide | omega | (dsimp only; omega)⟩ ⟨by first | decide | omega | (dsimp only; omega), by first | decide | omega | (dsimp only; omega)⟩ (Nat.le_of_ble_eq_true rfl) rfl d_Re_readInteger_30 (fun r g3_ H locs hp9 V1 => ?_)
    obtain ⟨rfl, he9⟩ := hp9
    rw [he9] at V1
    have V := V1
    refine W.eq (g2 := F0 m 33 ls [.int (nI (sg tx n (pl + 1)))]) rfl ?_
    by_cases h48 : sg tx n (pl + 1) = 48
    · have hpn := sg_lt (by omega : sg tx n (pl + 1) ≠ 0)
      have hRz : rd_i tx n false pl = (pl + 1 + 1, some 0) := by rw [hRj]; unfold rd_j; rw [if_neg (by omega), if_pos h48, if_neg (fun z => by cases z.1)]
      refine lv_bipush (v := 48) hx hb d_Re_readInteger_33 (by decide) ?_
      refine lv_icmp_ne (tgt := 57) hx hb d_Re_readInteger_35 (by decide) (fun c3 => absurd (by rw [h48]; rfl) c3) (fun c3 => ?_)
      refine lv_aload_n hx hb d_Re_readInteger_38 rfl (lv_at hl 1 rfl) ?_
      refine lv_dup hx hb d_Re_readInteger_39 rfl ?_
      refine gh_get C V hA.1 gc_Re gi_Re 5 (by decide) f_Re_42 rfl rfl d_Re_readInteger_40 ?_
      refine lv_iconst (v := 1) hx hb d_Re_readInteger_43 (by decide) ?_
      refine gn_iadd (a := pl + 1) (b := 1) hx hb d_Re_readInteger_44 ?_
      refine gh_put C V hA.1 gc_Re gi_Re ty_Re nm_Re 5 (by decide) f_Re_42 rfl rfl rfl (Nat.le_of_ble_eq_true rfl) d_Re_readInteger_45 (fun H locs V1 => ?_)
      obtain ⟨fa4, hffa4⟩ : ∃ z9 : gh_F, z9 = gh_u fa2 (Z 8) (.inr (3, [.ref (Z 200), .ref (Z 208), .ref (Z 9), .ref (Z 7), .int (nI n), .int (nI (pl + 1 + 1)), .int bd])) := ⟨_, rfl⟩
      have V : gh_V E A fa4 s H locs := by rw [hffa4]; exact V1
      have hA2 : re_A E ρ Z tx n fa4 (pl + 1 + 1) bd ∧ gh_fr fa2 fa4 (re_M ρ 8) := by rw [hffa4]; exact hA.own
      have hA := hA2.1
      have hfr := re_tr hfr hA2.2 (by omega)
      refine lv_aload_n hx hb d_Re_readInteger_48 rfl (lv_at hl 1 rfl) ?_
      refine gh_get C V hA.1 gc_Re gi_Re 0 (by decide) f_Re_7 rfl rfl d_Re_readInteger_49 ?_
      refine lv_lconst (v := 0) hx hb d_Re_readInteger_52 (by decide) ?_
      refine gh_callV C V hl.1 m_Vs_number l_Re_129 (c_Vs_number l E _ _ (rP ρ) _ _ _ _ _ _ _ 0 hA.2.1.2.2.2.1 hA.2.1.2.2.2.2.1) rfl hA.2.1.2.2.2.1.2.1 gc_Vs ⟨by first | decide | omega | (dsimp only; omega), by first | decide | omega | (dsimp only; omega)⟩ ⟨by first | decide | omega | (dsimp only; omega), by first | decide | omega | (dsimp only; omega)⟩ (Nat.le_of_ble_eq_true rfl) rfl d_Re_readInteger_53 (fun r gs H locs hp9 V1 => ?_)
      obtain ⟨⟨v9, rfl, hv9⟩, hfr2⟩ := hp9
      have V := V1
      refine W.eq (g2 := F0 m 56 ls [.ref v9]) rfl ?_
      refine gh_reta hAe C V hr (by first | exact Or.inl ⟨_, rfl⟩ | exact Or.inr ⟨_, rfl⟩) (by first | exact Or.inl rfl | exact Or.inr ⟨_, rfl⟩) hlocks d_Re_readInteger_56 (by first | decide | omega | (dsimp only; omega)) (by first | decide | omega | (dsimp only; omega)) ?_
      rw [hRz]
      exact ⟨⟨⟨_, rfl, hv9⟩, hA.new hfr2⟩, hfr.tr hfr2 (fun _ _ _ z => absurd z (by simp))⟩
    · refine lv_bipush (v := 48) hx hb d_Re_readInteger_33 (by decide) ?_
      refine lv_icmp_ne (tgt := 57) hx hb d_Re_readInteger_35 (by decide) (fun c4 => ?_) (fun c4 => absurd c4 (fun z => h48 ((nI_eq (b := 48) (by omega) (by decide)).mp z)))
      refine lv_aload_n hx hb d_Re_readInteger_57 rfl (lv_at hl 1 rfl) ?_
      refine gh_callV C V hl.1 m_Re_sign l_Re_56 (c_Re_sign l E _ _ ρ Z tx n (pl + 1) bd hA (by omega)) rfl hA.1 gc_Re ⟨by first | decide | omega | (dsimp only; omega), by first | decide | omega | (dsimp only; omega)⟩ ⟨by first | decide | omega | (dsimp only; omega), by first | decide | omega | (dsimp only; omega)⟩ (Nat.le_of_ble_eq_true rfl) rfl d_Re_readInteger_58 (fun r g5_ H locs hp9 V1 => ?_)
      obtain ⟨rfl, he9⟩ := hp9
      rw [he9] at V1
      have V := V1
      refine W.eq (g2 := F0 m 61 ls [.int (nI (sg tx n (pl + 1)))]) rfl ?_
      refine gh_callS C V hl.1 m_Re_isDigit l_Re_133 (c_Re_isDigit l E _ _ (sg tx n (pl + 1)) (by omega)) rfl ⟨by first | decide | omega | (dsimp only; omega), by first | decide | omega | (dsimp only; omega)⟩ ⟨by first | decide | omega | (dsimp only; omega), by first | decide | omega | (dsimp only; omega)⟩ (Nat.le_of_ble_eq_true rfl) rfl d_Re_readInteger_61 (fun r g6_ H locs hp9 V1 => ?_)
      obtain ⟨rfl, he9⟩ := hp9
      rw [he9] at V1
      have V := V1
      refine W.eq (g2 := F0 m 64 ls [.int (gh_bi (decide (48 ≤ sg tx n (pl + 1) ∧ sg tx n (pl + 1) ≤ 57)))]) rfl ?_
      by_cases hdg : 48 ≤ sg tx n (pl + 1) ∧ sg tx n (pl + 1) ≤ 57
      · rw [decide_eq_true hdg]
        refine W.eq (g2 := F0 m 64 ls [.int 1]) rfl ?_
        have hRz : rd_i tx n false pl = (match rd_d tx n (rd_ls true) n (pl + 1) 0 with | (q, none) => (q, none) | (q, some z) => (q, some (Int64.ofInt (if true = true then z else -z)))) := by rw [hRj]; unfold rd_j; rw [if_neg (fun z => z hdg), if_neg h48]; rfl
        refine lv_if_ne (tgt := 72) hx hb d_Re_readInteger_64 (by decide) (fun c5 => ?_) (fun c5 => absurd c5 (by decide))
        refine lv_iload_n hx hb d_Re_readInteger_72 rfl (lv_at hl 0 rfl) ?_
        refine lv_if_eq (tgt := 82) hx hb d_Re_readInteger_73 (by decide) (fun c6 => absurd c6 (by decide)) (fun c6 => ?_)
        refine lv_ldc2 (v := (-9223372036854775808)) hx hb C.2.2.2.1 (C.2.2.2.2.1 _ kl_Re_138) d_Re_readInteger_76 ?_
        refine lv_goto (tgt := 85) hx hb d_Re_readInteger_79 (by decide) ?_
        refine lv_lstore_n hx hb d_Re_readInteger_85 rfl hl (by decide) rfl (fun ls hl => ?_)
        have hl : lv_has ls 7 [(2, .long ((-9223372036854775808))), (1, .int 1), (0, .ref (Z 8))] := hl
        refine lv_lconst (v := 0) hx hb d_Re_readInteger_86 (by decide) ?_
        refine lv_lstore hx hb d_Re_readInteger_87 hl (by decide) rfl (fun ls hl => ?_)
        have hl : lv_has ls 7 [(4, .long 0), (2, .long ((-9223372036854775808))), (1, .int 1), (0, .ref (Z 8))] := hl
        have hl : lv_has ls 7 [(4, .long 0), (2, .long ((-9223372036854775808))), (0, .ref (Z 8)), (1, .int 1)] := lv_sub hl [0, 1, 3, 2] rfl
        have hl : lv_has ls 7 [(4, .long (Int64.ofInt 0)), (2, .long (rd_lL true)), (0, .ref (Z 8)), (1, .int 1)] := hl
        have loop : ∀ (m9 p9 : Nat) (z9 : Int) (f1 : gh_F) (H : Heap) (locs : List Loc) (ls : Array Slot), n ≤ p9 + m9 → p9 ≤ n → -9223372036854775808 ≤ z9 → z9 ≤ 0 → rd_d tx n (rd_ls true) m9 p9 z9 = rd_d tx n (rd_ls true) n (pl + 1) 0 → re_A E ρ Z tx n f1 p9 bd → gh_fr f f1 (re_M ρ 8) → gh_V E A f1 s H locs → lv_has ls 7 [(4, .long (Int64.ofInt z9)), (2, .long (rd_lL true)), (0, .ref (Z 8)), (1, .int 1)] → W p l e { frames := 3, cells := 1, slots := 7, locals := 120 } s m args below meth c H locs 0 0 (MQ below (gh_Q E f (fun r g => re_O E ρ Z tx n g bd ((rd_i tx n false pl).1, (rd_i tx n false pl).2.map vt_i) r ∧ gh_fr f g (re_M ρ 8))) args s 1 7 A) (F0 m 89 ls []) := by
          intro m9
          induction m9 with
          | zero =>
            intro p9 z9 f1 H locs ls hm hp9 hz1 hz2 hrd hA hfr V hl
            refine lv_aload_n hx hb d_Re_readInteger_89 rfl (lv_at hl 2 rfl) ?_
            refine gh_get C V hA.1 gc_Re gi_Re 5 (by decide) f_Re_42 rfl rfl d_Re_readInteger_90 ?_
            refine lv_aload_n hx hb d_Re_readInteger_93 rfl (lv_at hl 2 rfl) ?_
            refine gh_get C V hA.1 gc_Re gi_Re 4 (by decide) f_Re_39 rfl rfl d_Re_readInteger_94 ?_
            refine lv_icmp_ge (tgt := 174) hx hb d_Re_readInteger_97 (by decide) (fun c7 => ?_) (fun c7 => absurd (nI_le (by omega) (by omega)) c7)
            rw [show rd_d tx n (rd_ls true) 0 p9 z9 = (p9, some z9) from rfl] at hrd
            rw [← hrd] at hRz
            have hRz : rd_i tx n false pl = (p9, some (Int64.ofInt (if true = true then z9 else -z9))) := hRz
            refine lv_aload_n hx hb d_Re_readInteger_174 rfl (lv_at hl 2 rfl) ?_
            refine gh_get C V hA.1 gc_Re gi_Re 0 (by decide) f_Re_7 rfl rfl d_Re_readInteger_175 ?_
            refine lv_iload_n hx hb d_Re_readInteger_178 rfl (lv_at hl 3 rfl) ?_
            refine lv_if_eq (tgt := 187) hx hb d_Re_readInteger_179 (by decide) (fun c8 => absurd c8 (by decide)) (fun c8 => ?_)
            refine lv_lload hx hb d_Re_readInteger_182 (lv_at hl 0 rfl) ?_
            refine lv_goto (tgt := 190) hx hb d_Re_readInteger_184 (by decide) ?_
            refine gh_callV C V hl.1 m_Vs_number l_Re_129 (c_Vs_number l E _ _ (rP ρ) _ _ _ _ _ _ _ (Int64.ofInt z9) hA.2.1.2.2.2.1 hA.2.1.2.2.2.2.1) rfl hA.2.1.2.2.2.1.2.1 gc_Vs ⟨by first | decide | omega | (dsimp only; omega), by first | decide | omega | (dsimp only; omega)⟩ ⟨by first | decide | omega | (dsimp only; omega), by first | decide | omega | (dsimp only; omega)⟩ (Nat.le_of_ble_eq_true rfl) rfl d_Re_readInteger_190 (fun r gs H locs hp9 V1 => ?_)
            obtain ⟨⟨v9, rfl, hv9⟩, hfr2⟩ := hp9
            have V := V1
            refine W.eq (g2 := F0 m 193 ls [.ref v9]) rfl ?_
            refine gh_reta hAe C V hr (by first | exact Or.inl ⟨_, rfl⟩ | exact Or.inr ⟨_, rfl⟩) (by first | exact Or.inl rfl | exact Or.inr ⟨_, rfl⟩) hlocks d_Re_readInteger_193 (by first | decide | omega | (dsimp only; omega)) (by first | decide | omega | (dsimp only; omega)) ?_
            rw [hRz]
            exact ⟨⟨⟨_, rfl, hv9⟩, hA.new hfr2⟩, hfr.tr hfr2 (fun _ _ _ z => absurd z (by simp))⟩
          | succ m9 ih =>
            intro p9 z9 f1 H locs ls hm hp9 hz1 hz2 hrd hA hfr V hl
            by_cases hnp : n ≤ p9
            · have hz0 : sg tx n p9 = 0 := by unfold sg; rw [if_neg (by omega)]
              refine lv_aload_n hx hb d_Re_readInteger_89 rfl (lv_at hl 2 rfl) ?_
              refine gh_get C V hA.1 gc_Re gi_Re 5 (by decide) f_Re_42 rfl rfl d_Re_readInteger_90 ?_
              refine lv_aload_n hx hb d_Re_readInteger_93 rfl (lv_at hl 2 rfl) ?_
              refine gh_get C V hA.1 gc_Re gi_Re 4 (by decide) f_Re_39 rfl rfl d_Re_readInteger_94 ?_
              refine lv_icmp_ge (tgt := 174) hx hb d_Re_readInteger_97 (by decide) (fun c9 => ?_) (fun c9 => absurd (nI_le (by omega) (by omega)) c9)
              rw [rd_d_o, if_neg (by omega)] at hrd
              rw [← hrd] at hRz
              have hRz : rd_i tx n false pl = (p9, some (Int64.ofInt (if true = true then z9 else -z9))) := hRz
              refine lv_aload_n hx hb d_Re_readInteger_174 rfl (lv_at hl 2 rfl) ?_
              refine gh_get C V hA.1 gc_Re gi_Re 0 (by decide) f_Re_7 rfl rfl d_Re_readInteger_175 ?_
              refine lv_iload_n hx hb d_Re_readInteger_178 rfl (lv_at hl 3 rfl) ?_
              refine lv_if_eq (tgt := 187) hx hb d_Re_readInteger_179 (by decide) (fun c10 => absurd c10 (by decide)) (fun c10 => ?_)
              refine lv_lload hx hb d_Re_readInteger_182 (lv_at hl 0 rfl) ?_
              refine lv_goto (tgt := 190) hx hb d_Re_readInteger_184 (by decide) ?_
              refine gh_callV C V hl.1 m_Vs_number l_Re_129 (c_Vs_number l E _ _ (rP ρ) _ _ _ _ _ _ _ (Int64.ofInt z9) hA.2.1.2.2.2.1 hA.2.1.2.2.2.2.1) rfl hA.2.1.2.2.2.1.2.1 gc_Vs ⟨by first | decide | omega | (dsimp only; omega), by first | decide | omega | (dsimp only; omega)⟩ ⟨by first | decide | omega | (dsimp only; omega), by first | decide | omega | (dsimp only; omega)⟩ (Nat.le_of_ble_eq_true rfl) rfl d_Re_readInteger_190 (fun r gs H locs hp9 V1 => ?_)
              obtain ⟨⟨v9, rfl, hv9⟩, hfr2⟩ := hp9
              have V := V1
              refine W.eq (g2 := F0 m 193 ls [.ref v9]) rfl ?_
              refine gh_reta hAe C V hr (by first | exact Or.inl ⟨_, rfl⟩ | exact Or.inr ⟨_, rfl⟩) (by first | exact Or.inl rfl | exact Or.inr ⟨_, rfl⟩) hlocks d_Re_readInteger_193 (by first | decide | omega | (dsimp only; omega)) (by first | decide | omega | (dsimp only; omega)) ?_
              rw [hRz]
              exact ⟨⟨⟨_, rfl, hv9⟩, hA.new hfr2⟩, hfr.tr hfr2 (fun _ _ _ z => absurd z (by simp))⟩
            · obtain ⟨ht7, h7_7, htx7⟩ := hA.2.1.2.2.2.2.2.1
              have hpn : p9 < n := by omega
              have hc := (hch p9).2 hpn
              have hc1 := (hch p9).1
              refine lv_aload_n hx hb d_Re_readInteger_89 rfl (lv_at hl 2 rfl) ?_
              refine gh_get C V hA.1 gc_Re gi_Re 5 (by decide) f_Re_42 rfl rfl d_Re_readInteger_90 ?_
              refine lv_aload_n hx hb d_Re_readInteger_93 rfl (lv_at hl 2 rfl) ?_
              refine gh_get C V hA.1 gc_Re gi_Re 4 (by decide) f_Re_39 rfl rfl d_Re_readInteger_94 ?_
              refine lv_icmp_ge (tgt := 174) hx hb d_Re_readInteger_97 (by decide) (fun c11 => absurd c11 (nI_ge hpn (by omega))) (fun c11 => ?_)
              refine lv_aload_n hx hb d_Re_readInteger_100 rfl (lv_at hl 2 rfl) ?_
              refine gh_get C V hA.1 gc_Re gi_Re 3 (by decide) f_Re_30 rfl rfl d_Re_readInteger_101 ?_
              refine lv_aload_n hx hb d_Re_readInteger_104 rfl (lv_at hl 2 rfl) ?_
              refine gh_get C V hA.1 gc_Re gi_Re 5 (by decide) f_Re_42 rfl rfl d_Re_readInteger_105 ?_
              refine gn_cald (i := p9) C V h7_7 (by omega) (by omega) d_Re_readInteger_108 ?_
              rw [htx7 p9 hpn, ← hc.1]
              refine gh_callS C V hl.1 m_Re_isDigit l_Re_133 (c_Re_isDigit l E _ _ (sg tx n p9) (by omega)) rfl ⟨by first | decide | omega | (dsimp only; omega), by first | decide | omega | (dsimp only; omega)⟩ ⟨by first | decide | omega | (dsimp only; omega), by first | decide | omega | (dsimp only; omega)⟩ (Nat.le_of_ble_eq_true rfl) rfl d_Re_readInteger_109 (fun r g8_ H locs hp9 V1 => ?_)
              obtain ⟨rfl, he9⟩ := hp9
              rw [he9] at V1
              have V := V1
              refine W.eq (g2 := F0 m 112 ls [.int (gh_bi (decide (48 ≤ sg tx n p9 ∧ sg tx n p9 ≤ 57)))]) rfl ?_
              by_cases hd9 : 48 ≤ sg tx n p9 ∧ sg tx n p9 ≤ 57
              · rw [decide_eq_true hd9]
                refine W.eq (g2 := F0 m 112 ls [.int 1]) rfl ?_
                rw [rd_d_o, if_pos hd9] at hrd
                refine lv_if_eq (tgt := 174) hx hb d_Re_readInteger_112 (by decide) (fun c12 => absurd c12 (by decide)) (fun c12 => ?_)
                refine lv_aload_n hx hb d_Re_readInteger_115 rfl (lv_at hl 2 rfl) ?_
                refine gh_get C V hA.1 gc_Re gi_Re 3 (by decide) f_Re_30 rfl rfl d_Re_readInteger_116 ?_
                refine lv_aload_n hx hb d_Re_readInteger_119 rfl (lv_at hl 2 rfl) ?_
                refine gh_get C V hA.1 gc_Re gi_Re 5 (by decide) f_Re_42 rfl rfl d_Re_readInteger_120 ?_
                refine gn_cald (i := p9) C V h7_7 (by omega) (by omega) d_Re_readInteger_123 ?_
                rw [htx7 p9 hpn, ← hc.1]
                refine lv_bipush (v := 48) hx hb d_Re_readInteger_124 (by decide) ?_
                refine gn_isub (a := sg tx n p9) (b := 48) hx hb (by omega) d_Re_readInteger_126 ?_
                refine lv_istore hx hb d_Re_readInteger_127 hl (by decide) rfl (fun ls hl => ?_)
                have hl : lv_has ls 7 [(6, .int (nI ((sg tx n p9) - 48))), (4, .long (Int64.ofInt z9)), (2, .long (rd_lL true)), (0, .ref (Z 8)), (1, .int 1)] := hl
                refine lv_lload hx hb d_Re_readInteger_129 (lv_at hl 1 rfl) ?_
                refine lv_lload_n hx hb d_Re_readInteger_131 rfl (lv_at hl 2 rfl) ?_
                refine lv_iload hx hb d_Re_readInteger_132 (lv_at hl 0 rfl) ?_
                have hcast : (((sg tx n p9 - 48) : Nat) : Int) = (sg tx n p9 : Int) - 48 := by omega
                refine lv_i2l hx hb d_Re_readInteger_134 (nI_l (by omega)) ?_
                refine lv_ladd hx hb d_Re_readInteger_135 ?_
                refine lv_ldc2 (v := (10)) hx hb C.2.2.2.1 (C.2.2.2.2.1 _ kl_Re_142) d_Re_readInteger_136 ?_
                refine lv_ldiv hx hb d_Re_readInteger_139 (by decide) ?_
                refine W.lcmp hx hb d_Re_readInteger_140 ?_
                have hcmp := ri_c3 (neg := true) (d := (sg tx n p9 - 48)) hz1 hz2 (by omega)
                rw [hcast] at hcmp
                by_cases hlt : 10 * z9 < rd_ls true + ((sg tx n p9 : Int) - 48)
                · refine lv_if_ge (tgt := 149) hx hb d_Re_readInteger_141 (by decide) (fun c13 => absurd c13 (fun z => lg_ge0 z (hcmp.mpr hlt))) (fun c13 => ?_)
                  refine lv_aload_n hx hb d_Re_readInteger_144 rfl (lv_at hl 3 rfl) ?_
                  refine gh_callV C V hl.1 m_Re_refused l_Re_52 (c_Re_refused l E _ _ ρ Z tx n p9 bd hA) rfl hA.1 gc_Re ⟨by first | decide | omega | (dsimp only; omega), by first | decide | omega | (dsimp only; omega)⟩ ⟨by first | decide | omega | (dsimp only; omega), by first | decide | omega | (dsimp only; omega)⟩ (Nat.le_of_ble_eq_true rfl) rfl d_Re_readInteger_145 (fun r fz9 H locs hp9 V1 => ?_)
                  obtain ⟨rfl, hA2, hfr2⟩ := hp9
                  have V := V1
                  refine W.eq (g2 := F0 m 148 ls [.null]) rfl ?_
                  have hA := hA2
                  have hfr := re_tr hfr hfr2 (by omega)
                  rw [if_pos hlt] at hrd
                  rw [← hrd] at hRz
                  have hRz : rd_i tx n false pl = (p9, none) := hRz
                  refine gh_reta hAe C V hr (by first | exact Or.inl ⟨_, rfl⟩ | exact Or.inr ⟨_, rfl⟩) (by first | exact Or.inl rfl | exact Or.inr ⟨_, rfl⟩) hlocks d_Re_readInteger_148 (by first | decide | omega | (dsimp only; omega)) (by first | decide | omega | (dsimp only; omega)) ?_
                  rw [hRz]
                  exact ⟨⟨rfl, hA⟩, hfr⟩
                · refine lv_if_ge (tgt := 149) hx hb d_Re_readInteger_141 (by decide) (fun c14 => ?_) (fun c14 => absurd (Int32.not_lt.mp (fun z => hlt (hcmp.mp z))) c14)
                  rw [if_neg hlt] at hrd
                  refine lv_lload hx hb d_Re_readInteger_149 (lv_at hl 1 rfl) ?_
                  refine lv_ldc2 (v := (10)) hx hb C.2.2.2.1 (C.2.2.2.2.1 _ kl_Re_142) d_Re_readInteger_151 ?_
                  refine lv_lmul hx hb d_Re_readInteger_154 ?_
                  refine lv_iload hx hb d_Re_readInteger_155 (lv_at hl 0 rfl) ?_
                  refine lv_i2l hx hb d_Re_readInteger_157 (nI_l (by omega)) ?_
                  refine lv_lsub hx hb d_Re_readInteger_158 ?_
                  rw [ri_n2, hcast]
                  refine lv_lstore hx hb d_Re_readInteger_159 hl (by decide) rfl (fun ls hl => ?_)
                  have hl : lv_has ls 7 [(4, .long (Int64.ofInt (10 * z9 - ((sg tx n p9 : Int) - 48)))), (6, .int (nI ((sg tx n p9) - 48))), (2, .long (rd_lL true)), (0, .ref (Z 8)), (1, .int 1)] := hl
                  refine lv_aload_n hx hb d_Re_readInteger_161 rfl (lv_at hl 3 rfl) ?_
                  refine lv_dup hx hb d_Re_readInteger_162 rfl ?_
                  refine gh_get C V hA.1 gc_Re gi_Re 5 (by decide) f_Re_42 rfl rfl d_Re_readInteger_163 ?_
                  refine lv_iconst (v := 1) hx hb d_Re_readInteger_166 (by decide) ?_
                  refine gn_iadd (a := p9) (b := 1) hx hb d_Re_readInteger_167 ?_
                  refine gh_put C V hA.1 gc_Re gi_Re ty_Re nm_Re 5 (by decide) f_Re_42 rfl rfl rfl (Nat.le_of_ble_eq_true rfl) d_Re_readInteger_168 (fun H locs V1 => ?_)
                  obtain ⟨fa10, hffa10⟩ : ∃ z9 : gh_F, z9 = gh_u f1 (Z 8) (.inr (3, [.ref (Z 200), .ref (Z 208), .ref (Z 9), .ref (Z 7), .int (nI n), .int (nI (p9 + 1)), .int bd])) := ⟨_, rfl⟩
                  have V : gh_V E A fa10 s H locs := by rw [hffa10]; exact V1
                  have hA2 : re_A E ρ Z tx n fa10 (p9 + 1) bd ∧ gh_fr f1 fa10 (re_M ρ 8) := by rw [hffa10]; exact hA.own
                  have hA := hA2.1
                  have hfr := re_tr hfr hA2.2 (by omega)
                  refine lv_goto (tgt := 89) hx hb d_Re_readInteger_171 (by decide) ?_
                  have hl : lv_has ls 7 [(4, .long (Int64.ofInt (10 * z9 - ((sg tx n p9 : Int) - 48)))), (2, .long (rd_lL true)), (0, .ref (Z 8)), (1, .int 1)] := lv_sub hl [0, 2, 3, 4] rfl
                  have hl : lv_has ls 7 [(4, .long (Int64.ofInt (10 * z9 - ((sg tx n p9 : Int) - 48)))), (2, .long (rd_lL true)), (0, .ref (Z 8)), (1, .int 1)] := hl
                  have hls9 : -9223372036854775808 ≤ rd_ls true := by decide
                  exact ih (p9 + 1) _ _ _ _ ls (by omega) (by omega) (by omega) (by omega) hrd hA hfr V hl
              · rw [decide_eq_false hd9]
                refine W.eq (g2 := F0 m 112 ls [.int 0]) rfl ?_
                refine lv_if_eq (tgt := 174) hx hb d_Re_readInteger_112 (by decide) (fun c15 => ?_) (fun c15 => absurd (by decide) c15)
                rw [rd_d_o, if_neg hd9] at hrd
                rw [← hrd] at hRz
                have hRz : rd_i tx n false pl = (p9, some (Int64.ofInt (if true = true then z9 else -z9))) := hRz
                refine lv_aload_n hx hb d_Re_readInteger_174 rfl (lv_at hl 2 rfl) ?_
                refine gh_get C V hA.1 gc_Re gi_Re 0 (by decide) f_Re_7 rfl rfl d_Re_readInteger_175 ?_
                refine lv_iload_n hx hb d_Re_readInteger_178 rfl (lv_at hl 3 rfl) ?_
                refine lv_if_eq (tgt := 187) hx hb d_Re_readInteger_179 (by decide) (fun c16 => absurd c16 (by decide)) (fun c16 => ?_)
                refine lv_lload hx hb d_Re_readInteger_182 (lv_at hl 0 rfl) ?_
                refine lv_goto (tgt := 190) hx hb d_Re_readInteger_184 (by decide) ?_
                refine gh_callV C V hl.1 m_Vs_number l_Re_129 (c_Vs_number l E _ _ (rP ρ) _ _ _ _ _ _ _ (Int64.ofInt z9) hA.2.1.2.2.2.1 hA.2.1.2.2.2.2.1) rfl hA.2.1.2.2.2.1.2.1 gc_Vs ⟨by first | decide | omega | (dsimp only; omega), by first | decide | omega | (dsimp only; omega)⟩ ⟨by first | decide | omega | (dsimp only; omega), by first | decide | omega | (dsimp only; omega)⟩ (Nat.le_of_ble_eq_true rfl) rfl d_Re_readInteger_190 (fun r gs H locs hp9 V1 => ?_)
                obtain ⟨⟨v9, rfl, hv9⟩, hfr2⟩ := hp9
                have V := V1
                refine W.eq (g2 := F0 m 193 ls [.ref v9]) rfl ?_
                refine gh_reta hAe C V hr (by first | exact Or.inl ⟨_, rfl⟩ | exact Or.inr ⟨_, rfl⟩) (by first | exact Or.inl rfl | exact Or.inr ⟨_, rfl⟩) hlocks d_Re_readInteger_193 (by first | decide | omega | (dsimp only; omega)) (by first | decide | omega | (dsimp only; omega)) ?_
                rw [hRz]
                exact ⟨⟨⟨_, rfl, hv9⟩, hA.new hfr2⟩, hfr.tr hfr2 (fun _ _ _ z => absurd z (by simp))⟩
        exact loop n (pl + 1) 0 _ _ _ ls (by omega) (by omega) (by decide) (by decide) rfl hA hfr V hl
      · rw [decide_eq_false hdg]
        refine W.eq (g2 := F0 m 64 ls [.int 0]) rfl ?_
        have hRz : rd_i tx n false pl = (pl + 1, none) := by rw [hRj]; unfold rd_j; rw [if_pos hdg]
        refine lv_if_ne (tgt := 72) hx hb d_Re_readInteger_64 (by decide) (fun c17 => absurd (by decide) c17) (fun c17 => ?_)
        refine lv_aload_n hx hb d_Re_readInteger_67 rfl (lv_at hl 1 rfl) ?_
        refine gh_callV C V hl.1 m_Re_refused l_Re_52 (c_Re_refused l E _ _ ρ Z tx n (pl + 1) bd hA) rfl hA.1 gc_Re ⟨by first | decide | omega | (dsimp only; omega), by first | decide | omega | (dsimp only; omega)⟩ ⟨by first | decide | omega | (dsimp only; omega), by first | decide | omega | (dsimp only; omega)⟩ (Nat.le_of_ble_eq_true rfl) rfl d_Re_readInteger_68 (fun r fz11 H locs hp9 V1 => ?_)
        obtain ⟨rfl, hA2, hfr2⟩ := hp9
        have V := V1
        refine W.eq (g2 := F0 m 71 ls [.null]) rfl ?_
        have hA := hA2
        have hfr := re_tr hfr hfr2 (by omega)
        refine gh_reta hAe C V hr (by first | exact Or.inl ⟨_, rfl⟩ | exact Or.inr ⟨_, rfl⟩) (by first | exact Or.inl rfl | exact Or.inr ⟨_, rfl⟩) hlocks d_Re_readInteger_71 (by first | decide | omega | (dsimp only; omega)) (by first | decide | omega | (dsimp only; omega)) ?_
        rw [hRz]
        exact ⟨⟨rfl, hA⟩, hfr⟩
  · have hRj := rd_i_p (zb := false) h45
    refine lv_bipush (v := 45) hx hb d_Re_readInteger_4 (by decide) ?_
    refine lv_icmp_ne (tgt := 13) hx hb d_Re_readInteger_6 (by decide) (fun c18 => ?_) (fun c18 => absurd c18 (fun z => h45 ((nI_eq (b := 45) (by omega) (by decide)).mp z)))
    refine lv_iconst (v := 0) hx hb d_Re_readInteger_13 (by decide) ?_
    refine lv_istore_n hx hb d_Re_readInteger_14 rfl hl (by decide) rfl (fun ls hl => ?_)
    have hl : lv_has ls 7 [(1, .int 0), (0, .ref (Z 8))] := hl
    refine lv_iload_n hx hb d_Re_readInteger_15 rfl (lv_at hl 0 rfl) ?_
    refine lv_if_eq (tgt := 29) hx hb d_Re_readInteger_16 (by decide) (fun c19 => ?_) (fun c19 => absurd (by decide) c19)
    have hc2 := (hch (pl)).1
    refine lv_aload_n hx hb d_Re_readInteger_29 rfl (lv_at hl 1 rfl) ?_
    refine gh_callV C V hl.1 m_Re_sign l_Re_56 (c_Re_sign l E _ _ ρ Z tx n pl bd hA (by omega)) rfl hA.1 gc_Re ⟨by first | decide | omega | (dsimp only; omega), by first | decide | omega | (dsimp only; omega)⟩ ⟨by first | decide | omega | (dsimp only; omega), by first | decide | omega | (dsimp only; omega)⟩ (Nat.le_of_ble_eq_true rfl) rfl d_Re_readInteger_30 (fun r g12_ H locs hp9 V1 => ?_)
    obtain ⟨rfl, he9⟩ := hp9
    rw [he9] at V1
    have V := V1
    refine W.eq (g2 := F0 m 33 ls [.int (nI (sg tx n pl))]) rfl ?_
    by_cases h48 : sg tx n (pl) = 48
    · have hpn := sg_lt (by omega : sg tx n (pl) ≠ 0)
      have hRz : rd_i tx n false pl = (pl + 1, some 0) := by rw [hRj]; unfold rd_j; rw [if_neg (by omega), if_pos h48, if_neg (fun z => by cases z.1)]
      refine lv_bipush (v := 48) hx hb d_Re_readInteger_33 (by decide) ?_
      refine lv_icmp_ne (tgt := 57) hx hb d_Re_readInteger_35 (by decide) (fun c20 => absurd (by rw [h48]; rfl) c20) (fun c20 => ?_)
      refine lv_aload_n hx hb d_Re_readInteger_38 rfl (lv_at hl 1 rfl) ?_
      refine lv_dup hx hb d_Re_readInteger_39 rfl ?_
      refine gh_get C V hA.1 gc_Re gi_Re 5 (by decide) f_Re_42 rfl rfl d_Re_readInteger_40 ?_
      refine lv_iconst (v := 1) hx hb d_Re_readInteger_43 (by decide) ?_
      refine gn_iadd (a := pl) (b := 1) hx hb d_Re_readInteger_44 ?_
      refine gh_put C V hA.1 gc_Re gi_Re ty_Re nm_Re 5 (by decide) f_Re_42 rfl rfl rfl (Nat.le_of_ble_eq_true rfl) d_Re_readInteger_45 (fun H locs V1 => ?_)
      obtain ⟨fa13, hffa13⟩ : ∃ z9 : gh_F, z9 = gh_u f (Z 8) (.inr (3, [.ref (Z 200), .ref (Z 208), .ref (Z 9), .ref (Z 7), .int (nI n), .int (nI (pl + 1)), .int bd])) := ⟨_, rfl⟩
      have V : gh_V E A fa13 s H locs := by rw [hffa13]; exact V1
      have hA2 : re_A E ρ Z tx n fa13 (pl + 1) bd ∧ gh_fr f fa13 (re_M ρ 8) := by rw [hffa13]; exact hA.own
      have hA := hA2.1
      have hfr := re_tr hfr hA2.2 (by omega)
      refine lv_aload_n hx hb d_Re_readInteger_48 rfl (lv_at hl 1 rfl) ?_
      refine gh_get C V hA.1 gc_Re gi_Re 0 (by decide) f_Re_7 rfl rfl d_Re_readInteger_49 ?_
      refine lv_lconst (v := 0) hx hb d_Re_readInteger_52 (by decide) ?_
      refine gh_callV C V hl.1 m_Vs_number l_Re_129 (c_Vs_number l E _ _ (rP ρ) _ _ _ _ _ _ _ 0 hA.2.1.2.2.2.1 hA.2.1.2.2.2.2.1) rfl hA.2.1.2.2.2.1.2.1 gc_Vs ⟨by first | decide | omega | (dsimp only; omega), by first | decide | omega | (dsimp only; omega)⟩ ⟨by first | decide | omega | (dsimp only; omega), by first | decide | omega | (dsimp only; omega)⟩ (Nat.le_of_ble_eq_true rfl) rfl d_Re_readInteger_53 (fun r gs H locs hp9 V1 => ?_)
      obtain ⟨⟨v9, rfl, hv9⟩, hfr2⟩ := hp9
      have V := V1
      refine W.eq (g2 := F0 m 56 ls [.ref v9]) rfl ?_
      refine gh_reta hAe C V hr (by first | exact Or.inl ⟨_, rfl⟩ | exact Or.inr ⟨_, rfl⟩) (by first | exact Or.inl rfl | exact Or.inr ⟨_, rfl⟩) hlocks d_Re_readInteger_56 (by first | decide | omega | (dsimp only; omega)) (by first | decide | omega | (dsimp only; omega)) ?_
      rw [hRz]
      exact ⟨⟨⟨_, rfl, hv9⟩, hA.new hfr2⟩, hfr.tr hfr2 (fun _ _ _ z => absurd z (by simp))⟩
    · refine lv_bipush (v := 48) hx hb d_Re_readInteger_33 (by decide) ?_
      refine lv_icmp_ne (tgt := 57) hx hb d_Re_readInteger_35 (by decide) (fun c21 => ?_) (fun c21 => absurd c21 (fun z => h48 ((nI_eq (b := 48) (by omega) (by decide)).mp z)))
      refine lv_aload_n hx hb d_Re_readInteger_57 rfl (lv_at hl 1 rfl) ?_
      refine gh_callV C V hl.1 m_Re_sign l_Re_56 (c_Re_sign l E _ _ ρ Z tx n pl bd hA (by omega)) rfl hA.1 gc_Re ⟨by first | decide | omega | (dsimp only; omega), by first | decide | omega | (dsimp only; omega)⟩ ⟨by first | decide | omega | (dsimp only; omega), by first | decide | omega | (dsimp only; omega)⟩ (Nat.le_of_ble_eq_true rfl) rfl d_Re_readInteger_58 (fun r g14_ H locs hp9 V1 => ?_)
      obtain ⟨rfl, he9⟩ := hp9
      rw [he9] at V1
      have V := V1
      refine W.eq (g2 := F0 m 61 ls [.int (nI (sg tx n pl))]) rfl ?_
      refine gh_callS C V hl.1 m_Re_isDigit l_Re_133 (c_Re_isDigit l E _ _ (sg tx n pl) (by omega)) rfl ⟨by first | decide | omega | (dsimp only; omega), by first | decide | omega | (dsimp only; omega)⟩ ⟨by first | decide | omega | (dsimp only; omega), by first | decide | omega | (dsimp only; omega)⟩ (Nat.le_of_ble_eq_true rfl) rfl d_Re_readInteger_61 (fun r g15_ H locs hp9 V1 => ?_)
      obtain ⟨rfl, he9⟩ := hp9
      rw [he9] at V1
      have V := V1
      refine W.eq (g2 := F0 m 64 ls [.int (gh_bi (decide (48 ≤ sg tx n pl ∧ sg tx n pl ≤ 57)))]) rfl ?_
      by_cases hdg : 48 ≤ sg tx n (pl) ∧ sg tx n (pl) ≤ 57
      · rw [decide_eq_true hdg]
        refine W.eq (g2 := F0 m 64 ls [.int 1]) rfl ?_
        have hRz : rd_i tx n false pl = (match rd_d tx n (rd_ls false) n (pl) 0 with | (q, none) => (q, none) | (q, some z) => (q, some (Int64.ofInt (if false = true then z else -z)))) := by rw [hRj]; unfold rd_j; rw [if_neg (fun z => z hdg), if_neg h48]; rfl
        refine lv_if_ne (tgt := 72) hx hb d_Re_readInteger_64 (by decide) (fun c22 => ?_) (fun c22 => absurd c22 (by decide))
        refine lv_iload_n hx hb d_Re_readInteger_72 rfl (lv_at hl 0 rfl) ?_
        refine lv_if_eq (tgt := 82) hx hb d_Re_readInteger_73 (by decide) (fun c23 => ?_) (fun c23 => absurd (by decide) c23)
        refine lv_ldc2 (v := (-9223372036854775807)) hx hb C.2.2.2.1 (C.2.2.2.2.1 _ kl_Re_140) d_Re_readInteger_82 ?_
        refine lv_lstore_n hx hb d_Re_readInteger_85 rfl hl (by decide) rfl (fun ls hl => ?_)
        have hl : lv_has ls 7 [(2, .long ((-9223372036854775807))), (1, .int 0), (0, .ref (Z 8))] := hl
        refine lv_lconst (v := 0) hx hb d_Re_readInteger_86 (by decide) ?_
        refine lv_lstore hx hb d_Re_readInteger_87 hl (by decide) rfl (fun ls hl => ?_)
        have hl : lv_has ls 7 [(4, .long 0), (2, .long ((-9223372036854775807))), (1, .int 0), (0, .ref (Z 8))] := hl
        have hl : lv_has ls 7 [(4, .long 0), (2, .long ((-9223372036854775807))), (0, .ref (Z 8)), (1, .int 0)] := lv_sub hl [0, 1, 3, 2] rfl
        have hl : lv_has ls 7 [(4, .long (Int64.ofInt 0)), (2, .long (rd_lL false)), (0, .ref (Z 8)), (1, .int 0)] := hl
        have loop : ∀ (m9 p9 : Nat) (z9 : Int) (f1 : gh_F) (H : Heap) (locs : List Loc) (ls : Array Slot), n ≤ p9 + m9 → p9 ≤ n → -9223372036854775808 ≤ z9 → z9 ≤ 0 → rd_d tx n (rd_ls false) m9 p9 z9 = rd_d tx n (rd_ls false) n (pl) 0 → re_A E ρ Z tx n f1 p9 bd → gh_fr f f1 (re_M ρ 8) → gh_V E A f1 s H locs → lv_has ls 7 [(4, .long (Int64.ofInt z9)), (2, .long (rd_lL false)), (0, .ref (Z 8)), (1, .int 0)] → W p l e { frames := 3, cells := 1, slots := 7, locals := 120 } s m args below meth c H locs 0 0 (MQ below (gh_Q E f (fun r g => re_O E ρ Z tx n g bd ((rd_i tx n false pl).1, (rd_i tx n false pl).2.map vt_i) r ∧ gh_fr f g (re_M ρ 8))) args s 1 7 A) (F0 m 89 ls []) := by
          intro m9
          induction m9 with
          | zero =>
            intro p9 z9 f1 H locs ls hm hp9 hz1 hz2 hrd hA hfr V hl
            refine lv_aload_n hx hb d_Re_readInteger_89 rfl (lv_at hl 2 rfl) ?_
            refine gh_get C V hA.1 gc_Re gi_Re 5 (by decide) f_Re_42 rfl rfl d_Re_readInteger_90 ?_
            refine lv_aload_n hx hb d_Re_readInteger_93 rfl (lv_at hl 2 rfl) ?_
            refine gh_get C V hA.1 gc_Re gi_Re 4 (by decide) f_Re_39 rfl rfl d_Re_readInteger_94 ?_
            refine lv_icmp_ge (tgt := 174) hx hb d_Re_readInteger_97 (by decide) (fun c24 => ?_) (fun c24 => absurd (nI_le (by omega) (by omega)) c24)
            rw [show rd_d tx n (rd_ls false) 0 p9 z9 = (p9, some z9) from rfl] at hrd
            rw [← hrd] at hRz
            have hRz : rd_i tx n false pl = (p9, some (Int64.ofInt (if false = true then z9 else -z9))) := hRz
            refine lv_aload_n hx hb d_Re_readInteger_174 rfl (lv_at hl 2 rfl) ?_
            refine gh_get C V hA.1 gc_Re gi_Re 0 (by decide) f_Re_7 rfl rfl d_Re_readInteger_175 ?_
            refine lv_iload_n hx hb d_Re_readInteger_178 rfl (lv_at hl 3 rfl) ?_
            refine lv_if_eq (tgt := 187) hx hb d_Re_readInteger_179 (by decide) (fun c25 => ?_) (fun c25 => absurd (by decide) c25)
            refine lv_lload hx hb d_Re_readInteger_187 (lv_at hl 0 rfl) ?_
            refine lv_lneg hx hb d_Re_readInteger_189 ?_
            rw [ri_neg]
            refine gh_callV C V hl.1 m_Vs_number l_Re_129 (c_Vs_number l E _ _ (rP ρ) _ _ _ _ _ _ _ (Int64.ofInt (-z9)) hA.2.1.2.2.2.1 hA.2.1.2.2.2.2.1) rfl hA.2.1.2.2.2.1.2.1 gc_Vs ⟨by first | decide | omega | (dsimp only; omega), by first | decide | omega | (dsimp only; omega)⟩ ⟨by first | decide | omega | (dsimp only; omega), by first | decide | omega | (dsimp only; omega)⟩ (Nat.le_of_ble_eq_true rfl) rfl d_Re_readInteger_190 (fun r gs H locs hp9 V1 => ?_)
            obtain ⟨⟨v9, rfl, hv9⟩, hfr2⟩ := hp9
            have V := V1
            refine W.eq (g2 := F0 m 193 ls [.ref v9]) rfl ?_
            refine gh_reta hAe C V hr (by first | exact Or.inl ⟨_, rfl⟩ | exact Or.inr ⟨_, rfl⟩) (by first | exact Or.inl rfl | exact Or.inr ⟨_, rfl⟩) hlocks d_Re_readInteger_193 (by first | decide | omega | (dsimp only; omega)) (by first | decide | omega | (dsimp only; omega)) ?_
            rw [hRz]
            exact ⟨⟨⟨_, rfl, hv9⟩, hA.new hfr2⟩, hfr.tr hfr2 (fun _ _ _ z => absurd z (by simp))⟩
          | succ m9 ih =>
            intro p9 z9 f1 H locs ls hm hp9 hz1 hz2 hrd hA hfr V hl
            by_cases hnp : n ≤ p9
            · have hz0 : sg tx n p9 = 0 := by unfold sg; rw [if_neg (by omega)]
              refine lv_aload_n hx hb d_Re_readInteger_89 rfl (lv_at hl 2 rfl) ?_
              refine gh_get C V hA.1 gc_Re gi_Re 5 (by decide) f_Re_42 rfl rfl d_Re_readInteger_90 ?_
              refine lv_aload_n hx hb d_Re_readInteger_93 rfl (lv_at hl 2 rfl) ?_
              refine gh_get C V hA.1 gc_Re gi_Re 4 (by decide) f_Re_39 rfl rfl d_Re_readInteger_94 ?_
              refine lv_icmp_ge (tgt := 174) hx hb d_Re_readInteger_97 (by decide) (fun c26 => ?_) (fun c26 => absurd (nI_le (by omega) (by omega)) c26)
              rw [rd_d_o, if_neg (by omega)] at hrd
              rw [← hrd] at hRz
              have hRz : rd_i tx n false pl = (p9, some (Int64.ofInt (if false = true then z9 else -z9))) := hRz
              refine lv_aload_n hx hb d_Re_readInteger_174 rfl (lv_at hl 2 rfl) ?_
              refine gh_get C V hA.1 gc_Re gi_Re 0 (by decide) f_Re_7 rfl rfl d_Re_readInteger_175 ?_
              refine lv_iload_n hx hb d_Re_readInteger_178 rfl (lv_at hl 3 rfl) ?_
              refine lv_if_eq (tgt := 187) hx hb d_Re_readInteger_179 (by decide) (fun c27 => ?_) (fun c27 => absurd (by decide) c27)
              refine lv_lload hx hb d_Re_readInteger_187 (lv_at hl 0 rfl) ?_
              refine lv_lneg hx hb d_Re_readInteger_189 ?_
              rw [ri_neg]
              refine gh_callV C V hl.1 m_Vs_number l_Re_129 (c_Vs_number l E _ _ (rP ρ) _ _ _ _ _ _ _ (Int64.ofInt (-z9)) hA.2.1.2.2.2.1 hA.2.1.2.2.2.2.1) rfl hA.2.1.2.2.2.1.2.1 gc_Vs ⟨by first | decide | omega | (dsimp only; omega), by first | decide | omega | (dsimp only; omega)⟩ ⟨by first | decide | omega | (dsimp only; omega), by first | decide | omega | (dsimp only; omega)⟩ (Nat.le_of_ble_eq_true rfl) rfl d_Re_readInteger_190 (fun r gs H locs hp9 V1 => ?_)
              obtain ⟨⟨v9, rfl, hv9⟩, hfr2⟩ := hp9
              have V := V1
              refine W.eq (g2 := F0 m 193 ls [.ref v9]) rfl ?_
              refine gh_reta hAe C V hr (by first | exact Or.inl ⟨_, rfl⟩ | exact Or.inr ⟨_, rfl⟩) (by first | exact Or.inl rfl | exact Or.inr ⟨_, rfl⟩) hlocks d_Re_readInteger_193 (by first | decide | omega | (dsimp only; omega)) (by first | decide | omega | (dsimp only; omega)) ?_
              rw [hRz]
              exact ⟨⟨⟨_, rfl, hv9⟩, hA.new hfr2⟩, hfr.tr hfr2 (fun _ _ _ z => absurd z (by simp))⟩
            · obtain ⟨ht16, h7_16, htx16⟩ := hA.2.1.2.2.2.2.2.1
              have hpn : p9 < n := by omega
              have hc := (hch p9).2 hpn
              have hc1 := (hch p9).1
              refine lv_aload_n hx hb d_Re_readInteger_89 rfl (lv_at hl 2 rfl) ?_
              refine gh_get C V hA.1 gc_Re gi_Re 5 (by decide) f_Re_42 rfl rfl d_Re_readInteger_90 ?_
              refine lv_aload_n hx hb d_Re_readInteger_93 rfl (lv_at hl 2 rfl) ?_
              refine gh_get C V hA.1 gc_Re gi_Re 4 (by decide) f_Re_39 rfl rfl d_Re_readInteger_94 ?_
              refine lv_icmp_ge (tgt := 174) hx hb d_Re_readInteger_97 (by decide) (fun c28 => absurd c28 (nI_ge hpn (by omega))) (fun c28 => ?_)
              refine lv_aload_n hx hb d_Re_readInteger_100 rfl (lv_at hl 2 rfl) ?_
              refine gh_get C V hA.1 gc_Re gi_Re 3 (by decide) f_Re_30 rfl rfl d_Re_readInteger_101 ?_
              refine lv_aload_n hx hb d_Re_readInteger_104 rfl (lv_at hl 2 rfl) ?_
              refine gh_get C V hA.1 gc_Re gi_Re 5 (by decide) f_Re_42 rfl rfl d_Re_readInteger_105 ?_
              refine gn_cald (i := p9) C V h7_16 (by omega) (by omega) d_Re_readInteger_108 ?_
              rw [htx16 p9 hpn, ← hc.1]
              refine gh_callS C V hl.1 m_Re_isDigit l_Re_133 (c_Re_isDigit l E _ _ (sg tx n p9) (by omega)) rfl ⟨by first | decide | omega | (dsimp only; omega), by first | decide | omega | (dsimp only; omega)⟩ ⟨by first | decide | omega | (dsimp only; omega), by first | decide | omega | (dsimp only; omega)⟩ (Nat.le_of_ble_eq_true rfl) rfl d_Re_readInteger_109 (fun r g17_ H locs hp9 V1 => ?_)
              obtain ⟨rfl, he9⟩ := hp9
              rw [he9] at V1
              have V := V1
              refine W.eq (g2 := F0 m 112 ls [.int (gh_bi (decide (48 ≤ sg tx n p9 ∧ sg tx n p9 ≤ 57)))]) rfl ?_
              by_cases hd9 : 48 ≤ sg tx n p9 ∧ sg tx n p9 ≤ 57
              · rw [decide_eq_true hd9]
                refine W.eq (g2 := F0 m 112 ls [.int 1]) rfl ?_
                rw [rd_d_o, if_pos hd9] at hrd
                refine lv_if_eq (tgt := 174) hx hb d_Re_readInteger_112 (by decide) (fun c29 => absurd c29 (by decide)) (fun c29 => ?_)
                refine lv_aload_n hx hb d_Re_readInteger_115 rfl (lv_at hl 2 rfl) ?_
                refine gh_get C V hA.1 gc_Re gi_Re 3 (by decide) f_Re_30 rfl rfl d_Re_readInteger_116 ?_
                refine lv_aload_n hx hb d_Re_readInteger_119 rfl (lv_at hl 2 rfl) ?_
                refine gh_get C V hA.1 gc_Re gi_Re 5 (by decide) f_Re_42 rfl rfl d_Re_readInteger_120 ?_
                refine gn_cald (i := p9) C V h7_16 (by omega) (by omega) d_Re_readInteger_123 ?_
                rw [htx16 p9 hpn, ← hc.1]
                refine lv_bipush (v := 48) hx hb d_Re_readInteger_124 (by decide) ?_
                refine gn_isub (a := sg tx n p9) (b := 48) hx hb (by omega) d_Re_readInteger_126 ?_
                refine lv_istore hx hb d_Re_readInteger_127 hl (by decide) rfl (fun ls hl => ?_)
                have hl : lv_has ls 7 [(6, .int (nI ((sg tx n p9) - 48))), (4, .long (Int64.ofInt z9)), (2, .long (rd_lL false)), (0, .ref (Z 8)), (1, .int 0)] := hl
                refine lv_lload hx hb d_Re_readInteger_129 (lv_at hl 1 rfl) ?_
                refine lv_lload_n hx hb d_Re_readInteger_131 rfl (lv_at hl 2 rfl) ?_
                refine lv_iload hx hb d_Re_readInteger_132 (lv_at hl 0 rfl) ?_
                have hcast : (((sg tx n p9 - 48) : Nat) : Int) = (sg tx n p9 : Int) - 48 := by omega
                refine lv_i2l hx hb d_Re_readInteger_134 (nI_l (by omega)) ?_
                refine lv_ladd hx hb d_Re_readInteger_135 ?_
                refine lv_ldc2 (v := (10)) hx hb C.2.2.2.1 (C.2.2.2.2.1 _ kl_Re_142) d_Re_readInteger_136 ?_
                refine lv_ldiv hx hb d_Re_readInteger_139 (by decide) ?_
                refine W.lcmp hx hb d_Re_readInteger_140 ?_
                have hcmp := ri_c3 (neg := false) (d := (sg tx n p9 - 48)) hz1 hz2 (by omega)
                rw [hcast] at hcmp
                by_cases hlt : 10 * z9 < rd_ls false + ((sg tx n p9 : Int) - 48)
                · refine lv_if_ge (tgt := 149) hx hb d_Re_readInteger_141 (by decide) (fun c30 => absurd c30 (fun z => lg_ge0 z (hcmp.mpr hlt))) (fun c30 => ?_)
                  refine lv_aload_n hx hb d_Re_readInteger_144 rfl (lv_at hl 3 rfl) ?_
                  refine gh_callV C V hl.1 m_Re_refused l_Re_52 (c_Re_refused l E _ _ ρ Z tx n p9 bd hA) rfl hA.1 gc_Re ⟨by first | decide | omega | (dsimp only; omega), by first | decide | omega | (dsimp only; omega)⟩ ⟨by first | decide | omega | (dsimp only; omega), by first | decide | omega | (dsimp only; omega)⟩ (Nat.le_of_ble_eq_true rfl) rfl d_Re_readInteger_145 (fun r fz18 H locs hp9 V1 => ?_)
                  obtain ⟨rfl, hA2, hfr2⟩ := hp9
                  have V := V1
                  refine W.eq (g2 := F0 m 148 ls [.null]) rfl ?_
                  have hA := hA2
                  have hfr := re_tr hfr hfr2 (by omega)
                  rw [if_pos hlt] at hrd
                  rw [← hrd] at hRz
                  have hRz : rd_i tx n false pl = (p9, none) := hRz
                  refine gh_reta hAe C V hr (by first | exact Or.inl ⟨_, rfl⟩ | exact Or.inr ⟨_, rfl⟩) (by first | exact Or.inl rfl | exact Or.inr ⟨_, rfl⟩) hlocks d_Re_readInteger_148 (by first | decide | omega | (dsimp only; omega)) (by first | decide | omega | (dsimp only; omega)) ?_
                  rw [hRz]
                  exact ⟨⟨rfl, hA⟩, hfr⟩
                · refine lv_if_ge (tgt := 149) hx hb d_Re_readInteger_141 (by decide) (fun c31 => ?_) (fun c31 => absurd (Int32.not_lt.mp (fun z => hlt (hcmp.mp z))) c31)
                  rw [if_neg hlt] at hrd
                  refine lv_lload hx hb d_Re_readInteger_149 (lv_at hl 1 rfl) ?_
                  refine lv_ldc2 (v := (10)) hx hb C.2.2.2.1 (C.2.2.2.2.1 _ kl_Re_142) d_Re_readInteger_151 ?_
                  refine lv_lmul hx hb d_Re_readInteger_154 ?_
                  refine lv_iload hx hb d_Re_readInteger_155 (lv_at hl 0 rfl) ?_
                  refine lv_i2l hx hb d_Re_readInteger_157 (nI_l (by omega)) ?_
                  refine lv_lsub hx hb d_Re_readInteger_158 ?_
                  rw [ri_n2, hcast]
                  refine lv_lstore hx hb d_Re_readInteger_159 hl (by decide) rfl (fun ls hl => ?_)
                  have hl : lv_has ls 7 [(4, .long (Int64.ofInt (10 * z9 - ((sg tx n p9 : Int) - 48)))), (6, .int (nI ((sg tx n p9) - 48))), (2, .long (rd_lL false)), (0, .ref (Z 8)), (1, .int 0)] := hl
                  refine lv_aload_n hx hb d_Re_readInteger_161 rfl (lv_at hl 3 rfl) ?_
                  refine lv_dup hx hb d_Re_readInteger_162 rfl ?_
                  refine gh_get C V hA.1 gc_Re gi_Re 5 (by decide) f_Re_42 rfl rfl d_Re_readInteger_163 ?_
                  refine lv_iconst (v := 1) hx hb d_Re_readInteger_166 (by decide) ?_
                  refine gn_iadd (a := p9) (b := 1) hx hb d_Re_readInteger_167 ?_
                  refine gh_put C V hA.1 gc_Re gi_Re ty_Re nm_Re 5 (by decide) f_Re_42 rfl rfl rfl (Nat.le_of_ble_eq_true rfl) d_Re_readInteger_168 (fun H locs V1 => ?_)
                  obtain ⟨fa19, hffa19⟩ : ∃ z9 : gh_F, z9 = gh_u f1 (Z 8) (.inr (3, [.ref (Z 200), .ref (Z 208), .ref (Z 9), .ref (Z 7), .int (nI n), .int (nI (p9 + 1)), .int bd])) := ⟨_, rfl⟩
                  have V : gh_V E A fa19 s H locs := by rw [hffa19]; exact V1
                  have hA2 : re_A E ρ Z tx n fa19 (p9 + 1) bd ∧ gh_fr f1 fa19 (re_M ρ 8) := by rw [hffa19]; exact hA.own
                  have hA := hA2.1
                  have hfr := re_tr hfr hA2.2 (by omega)
                  refine lv_goto (tgt := 89) hx hb d_Re_readInteger_171 (by decide) ?_
                  have hl : lv_has ls 7 [(4, .long (Int64.ofInt (10 * z9 - ((sg tx n p9 : Int) - 48)))), (2, .long (rd_lL false)), (0, .ref (Z 8)), (1, .int 0)] := lv_sub hl [0, 2, 3, 4] rfl
                  have hl : lv_has ls 7 [(4, .long (Int64.ofInt (10 * z9 - ((sg tx n p9 : Int) - 48)))), (2, .long (rd_lL false)), (0, .ref (Z 8)), (1, .int 0)] := hl
                  have hls9 : -9223372036854775808 ≤ rd_ls false := by decide
                  exact ih (p9 + 1) _ _ _ _ ls (by omega) (by omega) (by omega) (by omega) hrd hA hfr V hl
              · rw [decide_eq_false hd9]
                refine W.eq (g2 := F0 m 112 ls [.int 0]) rfl ?_
                refine lv_if_eq (tgt := 174) hx hb d_Re_readInteger_112 (by decide) (fun c32 => ?_) (fun c32 => absurd (by decide) c32)
                rw [rd_d_o, if_neg hd9] at hrd
                rw [← hrd] at hRz
                have hRz : rd_i tx n false pl = (p9, some (Int64.ofInt (if false = true then z9 else -z9))) := hRz
                refine lv_aload_n hx hb d_Re_readInteger_174 rfl (lv_at hl 2 rfl) ?_
                refine gh_get C V hA.1 gc_Re gi_Re 0 (by decide) f_Re_7 rfl rfl d_Re_readInteger_175 ?_
                refine lv_iload_n hx hb d_Re_readInteger_178 rfl (lv_at hl 3 rfl) ?_
                refine lv_if_eq (tgt := 187) hx hb d_Re_readInteger_179 (by decide) (fun c33 => ?_) (fun c33 => absurd (by decide) c33)
                refine lv_lload hx hb d_Re_readInteger_187 (lv_at hl 0 rfl) ?_
                refine lv_lneg hx hb d_Re_readInteger_189 ?_
                rw [ri_neg]
                refine gh_callV C V hl.1 m_Vs_number l_Re_129 (c_Vs_number l E _ _ (rP ρ) _ _ _ _ _ _ _ (Int64.ofInt (-z9)) hA.2.1.2.2.2.1 hA.2.1.2.2.2.2.1) rfl hA.2.1.2.2.2.1.2.1 gc_Vs ⟨by first | decide | omega | (dsimp only; omega), by first | decide | omega | (dsimp only; omega)⟩ ⟨by first | decide | omega | (dsimp only; omega), by first | decide | omega | (dsimp only; omega)⟩ (Nat.le_of_ble_eq_true rfl) rfl d_Re_readInteger_190 (fun r gs H locs hp9 V1 => ?_)
                obtain ⟨⟨v9, rfl, hv9⟩, hfr2⟩ := hp9
                have V := V1
                refine W.eq (g2 := F0 m 193 ls [.ref v9]) rfl ?_
                refine gh_reta hAe C V hr (by first | exact Or.inl ⟨_, rfl⟩ | exact Or.inr ⟨_, rfl⟩) (by first | exact Or.inl rfl | exact Or.inr ⟨_, rfl⟩) hlocks d_Re_readInteger_193 (by first | decide | omega | (dsimp only; omega)) (by first | decide | omega | (dsimp only; omega)) ?_
                rw [hRz]
                exact ⟨⟨⟨_, rfl, hv9⟩, hA.new hfr2⟩, hfr.tr hfr2 (fun _ _ _ z => absurd z (by simp))⟩
        exact loop n (pl) 0 _ _ _ ls (by omega) (by omega) (by decide) (by decide) rfl hA hfr V hl
      · rw [decide_eq_false hdg]
        refine W.eq (g2 := F0 m 64 ls [.int 0]) rfl ?_
        have hRz : rd_i tx n false pl = (pl, none) := by rw [hRj]; unfold rd_j; rw [if_pos hdg]
        refine lv_if_ne (tgt := 72) hx hb d_Re_readInteger_64 (by decide) (fun c34 => absurd (by decide) c34) (fun c34 => ?_)
        refine lv_aload_n hx hb d_Re_readInteger_67 rfl (lv_at hl 1 rfl) ?_
        refine gh_callV C V hl.1 m_Re_refused l_Re_52 (c_Re_refused l E _ _ ρ Z tx n pl bd hA) rfl hA.1 gc_Re ⟨by first | decide | omega | (dsimp only; omega), by first | decide | omega | (dsimp only; omega)⟩ ⟨by first | decide | omega | (dsimp only; omega), by first | decide | omega | (dsimp only; omega)⟩ (Nat.le_of_ble_eq_true rfl) rfl d_Re_readInteger_68 (fun r fz20 H locs hp9 V1 => ?_)
        obtain ⟨rfl, hA2, hfr2⟩ := hp9
        have V := V1
        refine W.eq (g2 := F0 m 71 ls [.null]) rfl ?_
        have hA := hA2
        have hfr := re_tr hfr hfr2 (by omega)
        refine gh_reta hAe C V hr (by first | exact Or.inl ⟨_, rfl⟩ | exact Or.inr ⟨_, rfl⟩) (by first | exact Or.inl rfl | exact Or.inr ⟨_, rfl⟩) hlocks d_Re_readInteger_71 (by first | decide | omega | (dsimp only; omega)) (by first | decide | omega | (dsimp only; omega)) ?_
        rw [hRz]
        exact ⟨⟨rfl, hA⟩, hfr⟩
