/-! make once more, in few words; seal of the model. Printed by wip/whole/gen_mo9.py. -/
/-- a new value at nv: of its own kind, number, no letters, size and height 1 -/
def mk_o (S : Nat → Int32) (I : mo_I) (J : mo_J) (nv : Nat) (x : Int32) (y : Int64) (S2 : Nat → Int32) (I2 : mo_I) (J2 : mo_J) : Prop := S2 = va_up S 11 (nI (nv + 1)) ∧ (∀ k j, (k ≠ 1 ∧ k ≠ 3 ∧ k ≠ 4 ∧ k ≠ 5) ∨ j ≠ nv → I2 k j = I k j) ∧ (I2 1 nv = x ∧ I2 3 nv = 0 ∧ I2 4 nv = 1 ∧ I2 5 nv = 1) ∧ (∀ k j, (k ≠ 2 ∧ k ≠ 6 ∧ k ≠ 7 ∧ k ≠ 8) ∨ j ≠ nv → J2 k j = J k j) ∧ J2 2 nv = y ∧ J2 6 nv = 0 ∧ J2 7 nv = 0 ∧ J2 8 nv = 0
theorem c_Mo_mk (l : Launch) (E : gh_E) (sz : Nat) (f : gh_F) (a : Nat) (ad : Nat → Nat) (S : Nat → Int32) (I : Nat → Nat → Int32) (J : Nat → Nat → Int64) (x : Int32) (y : Int64) (nv : Nat) (hX : mo_R E f a ad S I J) (hS11 : S 11 = nI nv) (hv : nv < 760) : gh_M l y_Mo_make b_Mo_make 5 (some .int) E sz [.ref a, .int x, .long y] f { frames := 3, cells := 0, slots := 0, locals := 60 } (fun r g => r = some (.int (nI nv)) ∧ ∃ S2 I2 J2, mo_X E f g a ad S2 I2 J2 ∧ mk_o S I J nv x y S2 I2 J2) := by
  refine gh_weak (c_Mo_make l E sz f a ad S I J x y nv hX hS11 hv) (fun r g h => ?_)
  obtain ⟨hr, S2, I2, J2, hX2, h1, h2, h3⟩ := h
  refine ⟨hr, S2, I2, J2, hX2, h1, fun k j hk => ?_, ?_, fun k j hk => ?_, ?_⟩
  · rw [h2]
    by_cases k5 : k = 5
    · subst k5; rw [va_up_s, va_up_n (by decide), va_up_n (by decide), va_up_n (by decide)]; simp only [upd]; rw [if_neg (by omega)]
    · rw [va_up_n k5]
      by_cases k4 : k = 4
      · subst k4; rw [va_up_s, va_up_n (by decide), va_up_n (by decide)]; simp only [upd]; rw [if_neg (by omega)]
      · rw [va_up_n k4]
        by_cases k3 : k = 3
        · subst k3; rw [va_up_s, va_up_n (by decide)]; simp only [upd]; rw [if_neg (by omega)]
        · rw [va_up_n k3]
          by_cases k1 : k = 1
          · subst k1; rw [va_up_s]; simp only [upd]; rw [if_neg (by omega)]
          · rw [va_up_n k1]
  · rw [h2]
    refine ⟨?_, ?_, ?_, ?_⟩ <;> simp [va_up, upd]
  · rw [h3]
    by_cases k8 : k = 8
    · subst k8; rw [va_up_s, va_up_n (by decide), va_up_n (by decide), va_up_n (by decide)]; simp only [vp_updL]; rw [if_neg (by omega)]
    · rw [va_up_n k8]
      by_cases k7 : k = 7
      · subst k7; rw [va_up_s, va_up_n (by decide), va_up_n (by decide)]; simp only [vp_updL]; rw [if_neg (by omega)]
      · rw [va_up_n k7]
        by_cases k6 : k = 6
        · subst k6; rw [va_up_s, va_up_n (by decide)]; simp only [vp_updL]; rw [if_neg (by omega)]
        · rw [va_up_n k6]
          by_cases k2 : k = 2
          · subst k2; rw [va_up_s]; simp only [vp_updL]; rw [if_neg (by omega)]
          · rw [va_up_n k2]
  · rw [h3]
    refine ⟨?_, ?_, ?_, ?_⟩ <;> simp [va_up, vp_updL]
theorem ma_v.new {b0 nv v : Nat} (h : ma_v b0 nv v) (h29 : 29 ≤ nv) : v ≠ nv := by
  rcases h.1 with h | h <;> omega
theorem mk_o.ma {S S2 : Nat → Int32} {I I2 : mo_I} {J J2 : mo_J} {nv : Nat} {x : Int32} {y : Int64} (h : mk_o S I J nv x y S2 I2 J2) {b0 pb np : Nat} (h29 : 29 ≤ nv) : ma I J I2 J2 b0 nv pb np :=
  ⟨fun k v _ hv => h.2.1 k v (Or.inr (hv.new h29)), fun k v _ hv => h.2.2.2.1 k v (Or.inr (hv.new h29)), fun p _ _ => h.2.1 10 p (Or.inl (by decide))⟩
theorem ml_0 {J : mo_J} {v : Nat} (h6 : J 6 v = 0) (h7 : J 7 v = 0) (h8 : J 8 v = 0) : ml_L J v [] := by
  refine ⟨Nat.zero_le _, fun k hk => ?_⟩
  rw [h6, h7, h8]
  have : ∀ k, k < 24 → ml_at 0 0 0 k = 0 := by decide +kernel
  rw [this k hk]; rfl
/-- an integer -/
theorem mk_o.int {S S2 : Nat → Int32} {I I2 : mo_I} {J J2 : mo_J} {nv : Nat} {y : Int64} (h : mk_o S I J nv 3 y S2 I2 J2) {b0 pb np : Nat} (hb : b0 ≤ nv) (hv : nv < 760) : mw I2 J2 b0 (nv + 1) pb np nv (vt_i y) := by
  obtain ⟨-, -, ⟨h1, h2, h3, h4⟩, -, h5, h6, h7, h8⟩ := h
  refine ⟨mv_o.mpr ⟨⟨Or.inr ⟨hb, by omega⟩, hv⟩, h1, h5, h2, ml_0 h6 h7 h8, h3, h4, fun z => absurd z (by show ¬ 5 ≤ 3; omega)⟩, vo_o.mpr ⟨by show 3 ≤ 6; omega, fun z => absurd rfl z, fun _ => rfl, lt_ok0, rfl, fun _ => rfl, Nat.zero_le _, by show 1 ≤ 100; omega, ⟨Nat.zero_le _, fun _ => rfl⟩, rfl, fun j hj => absurd hj (Nat.not_lt_zero j), fun j hj => absurd hj (Nat.not_lt_zero j)⟩⟩
theorem d_Mo_seal_0 : decode b_Mo_seal 0 = .ok (.aload_n 0, 1) := by decide +kernel
theorem d_Mo_seal_1 : decode b_Mo_seal 1 = .ok (.iload_n 1, 1) := by decide +kernel
theorem d_Mo_seal_2 : decode b_Mo_seal 2 = .ok (.lconst 0, 1) := by decide +kernel
theorem d_Mo_seal_3 : decode b_Mo_seal 3 = .ok (.invokevirtual 159, 3) := by decide +kernel
theorem d_Mo_seal_6 : decode b_Mo_seal 6 = .ok (.istore_n 2, 1) := by decide +kernel
theorem d_Mo_seal_7 : decode b_Mo_seal 7 = .ok (.aload_n 0, 1) := by decide +kernel
theorem d_Mo_seal_8 : decode b_Mo_seal 8 = .ok (.getfield 17, 3) := by decide +kernel
theorem d_Mo_seal_11 : decode b_Mo_seal 11 = .ok (.iload_n 2, 1) := by decide +kernel
theorem d_Mo_seal_12 : decode b_Mo_seal 12 = .ok (.aload_n 0, 1) := by decide +kernel
theorem d_Mo_seal_13 : decode b_Mo_seal 13 = .ok (.getfield 156, 3) := by decide +kernel
theorem d_Mo_seal_16 : decode b_Mo_seal 16 = .ok (.iastore, 1) := by decide +kernel
theorem d_Mo_seal_17 : decode b_Mo_seal 17 = .ok (.aload_n 0, 1) := by decide +kernel
theorem d_Mo_seal_18 : decode b_Mo_seal 18 = .ok (.getfield 35, 3) := by decide +kernel
theorem d_Mo_seal_21 : decode b_Mo_seal 21 = .ok (.iload_n 2, 1) := by decide +kernel
theorem d_Mo_seal_22 : decode b_Mo_seal 22 = .ok (.aload_n 0, 1) := by decide +kernel
theorem d_Mo_seal_23 : decode b_Mo_seal 23 = .ok (.getfield 163, 3) := by decide +kernel
theorem d_Mo_seal_26 : decode b_Mo_seal 26 = .ok (.iastore, 1) := by decide +kernel
theorem d_Mo_seal_27 : decode b_Mo_seal 27 = .ok (.iconst 0, 1) := by decide +kernel
theorem d_Mo_seal_28 : decode b_Mo_seal 28 = .ok (.istore_n 3, 1) := by decide +kernel
theorem d_Mo_seal_29 : decode b_Mo_seal 29 = .ok (.iload_n 3, 1) := by decide +kernel
theorem d_Mo_seal_30 : decode b_Mo_seal 30 = .ok (.aload_n 0, 1) := by decide +kernel
theorem d_Mo_seal_31 : decode b_Mo_seal 31 = .ok (.getfield 156, 3) := by decide +kernel
theorem d_Mo_seal_34 : decode b_Mo_seal 34 = .ok (.if_icmp .ge 120, 3) := by decide +kernel
theorem d_Mo_seal_37 : decode b_Mo_seal 37 = .ok (.aload_n 0, 1) := by decide +kernel
theorem d_Mo_seal_38 : decode b_Mo_seal 38 = .ok (.getfield 38, 3) := by decide +kernel
theorem d_Mo_seal_41 : decode b_Mo_seal 41 = .ok (.aload_n 0, 1) := by decide +kernel
theorem d_Mo_seal_42 : decode b_Mo_seal 42 = .ok (.getfield 163, 3) := by decide +kernel
theorem d_Mo_seal_45 : decode b_Mo_seal 45 = .ok (.iload_n 3, 1) := by decide +kernel
theorem d_Mo_seal_46 : decode b_Mo_seal 46 = .ok (.iadd, 1) := by decide +kernel
theorem d_Mo_seal_47 : decode b_Mo_seal 47 = .ok (.aload_n 0, 1) := by decide +kernel
theorem d_Mo_seal_48 : decode b_Mo_seal 48 = .ok (.getfield 44, 3) := by decide +kernel
theorem d_Mo_seal_51 : decode b_Mo_seal 51 = .ok (.iload_n 3, 1) := by decide +kernel
theorem d_Mo_seal_52 : decode b_Mo_seal 52 = .ok (.iaload, 1) := by decide +kernel
theorem d_Mo_seal_53 : decode b_Mo_seal 53 = .ok (.iastore, 1) := by decide +kernel
theorem d_Mo_seal_54 : decode b_Mo_seal 54 = .ok (.aload_n 0, 1) := by decide +kernel
theorem d_Mo_seal_55 : decode b_Mo_seal 55 = .ok (.getfield 38, 3) := by decide +kernel
theorem d_Mo_seal_58 : decode b_Mo_seal 58 = .ok (.aload_n 0, 1) := by decide +kernel
theorem d_Mo_seal_59 : decode b_Mo_seal 59 = .ok (.getfield 163, 3) := by decide +kernel
theorem d_Mo_seal_62 : decode b_Mo_seal 62 = .ok (.aload_n 0, 1) := by decide +kernel
theorem d_Mo_seal_63 : decode b_Mo_seal 63 = .ok (.getfield 156, 3) := by decide +kernel
theorem d_Mo_seal_66 : decode b_Mo_seal 66 = .ok (.iadd, 1) := by decide +kernel
theorem d_Mo_seal_67 : decode b_Mo_seal 67 = .ok (.iload_n 3, 1) := by decide +kernel
theorem d_Mo_seal_68 : decode b_Mo_seal 68 = .ok (.iadd, 1) := by decide +kernel
theorem d_Mo_seal_69 : decode b_Mo_seal 69 = .ok (.aload_n 0, 1) := by decide +kernel
theorem d_Mo_seal_70 : decode b_Mo_seal 70 = .ok (.getfield 47, 3) := by decide +kernel
theorem d_Mo_seal_73 : decode b_Mo_seal 73 = .ok (.iload_n 3, 1) := by decide +kernel
theorem d_Mo_seal_74 : decode b_Mo_seal 74 = .ok (.iaload, 1) := by decide +kernel
theorem d_Mo_seal_75 : decode b_Mo_seal 75 = .ok (.iastore, 1) := by decide +kernel
theorem d_Mo_seal_76 : decode b_Mo_seal 76 = .ok (.aload_n 0, 1) := by decide +kernel
theorem d_Mo_seal_77 : decode b_Mo_seal 77 = .ok (.getfield 20, 3) := by decide +kernel
theorem d_Mo_seal_80 : decode b_Mo_seal 80 = .ok (.iload_n 2, 1) := by decide +kernel
theorem d_Mo_seal_81 : decode b_Mo_seal 81 = .ok (.aload_n 0, 1) := by decide +kernel
theorem d_Mo_seal_82 : decode b_Mo_seal 82 = .ok (.getfield 20, 3) := by decide +kernel
theorem d_Mo_seal_85 : decode b_Mo_seal 85 = .ok (.iload_n 2, 1) := by decide +kernel
theorem d_Mo_seal_86 : decode b_Mo_seal 86 = .ok (.iaload, 1) := by decide +kernel
theorem d_Mo_seal_87 : decode b_Mo_seal 87 = .ok (.aload_n 0, 1) := by decide +kernel
theorem d_Mo_seal_88 : decode b_Mo_seal 88 = .ok (.getfield 20, 3) := by decide +kernel
theorem d_Mo_seal_91 : decode b_Mo_seal 91 = .ok (.aload_n 0, 1) := by decide +kernel
theorem d_Mo_seal_92 : decode b_Mo_seal 92 = .ok (.getfield 44, 3) := by decide +kernel
theorem d_Mo_seal_95 : decode b_Mo_seal 95 = .ok (.iload_n 3, 1) := by decide +kernel
theorem d_Mo_seal_96 : decode b_Mo_seal 96 = .ok (.iaload, 1) := by decide +kernel
theorem d_Mo_seal_97 : decode b_Mo_seal 97 = .ok (.iaload, 1) := by decide +kernel
theorem d_Mo_seal_98 : decode b_Mo_seal 98 = .ok (.iadd, 1) := by decide +kernel
theorem d_Mo_seal_99 : decode b_Mo_seal 99 = .ok (.iastore, 1) := by decide +kernel
theorem d_Mo_seal_100 : decode b_Mo_seal 100 = .ok (.aload_n 0, 1) := by decide +kernel
theorem d_Mo_seal_101 : decode b_Mo_seal 101 = .ok (.getfield 23, 3) := by decide +kernel
theorem d_Mo_seal_104 : decode b_Mo_seal 104 = .ok (.iload_n 2, 1) := by decide +kernel
theorem d_Mo_seal_105 : decode b_Mo_seal 105 = .ok (.aload_n 0, 1) := by decide +kernel
theorem d_Mo_seal_106 : decode b_Mo_seal 106 = .ok (.getfield 23, 3) := by decide +kernel
theorem d_Mo_seal_109 : decode b_Mo_seal 109 = .ok (.aload_n 0, 1) := by decide +kernel
theorem d_Mo_seal_110 : decode b_Mo_seal 110 = .ok (.getfield 44, 3) := by decide +kernel
theorem d_Mo_seal_113 : decode b_Mo_seal 113 = .ok (.iload_n 3, 1) := by decide +kernel
theorem d_Mo_seal_114 : decode b_Mo_seal 114 = .ok (.iaload, 1) := by decide +kernel
theorem d_Mo_seal_115 : decode b_Mo_seal 115 = .ok (.iaload, 1) := by decide +kernel
theorem d_Mo_seal_116 : decode b_Mo_seal 116 = .ok (.aload_n 0, 1) := by decide +kernel
theorem d_Mo_seal_117 : decode b_Mo_seal 117 = .ok (.getfield 23, 3) := by decide +kernel
theorem d_Mo_seal_120 : decode b_Mo_seal 120 = .ok (.iload_n 2, 1) := by decide +kernel
theorem d_Mo_seal_121 : decode b_Mo_seal 121 = .ok (.iaload, 1) := by decide +kernel
theorem d_Mo_seal_122 : decode b_Mo_seal 122 = .ok (.if_icmp .lt 19, 3) := by decide +kernel
theorem d_Mo_seal_125 : decode b_Mo_seal 125 = .ok (.aload_n 0, 1) := by decide +kernel
theorem d_Mo_seal_126 : decode b_Mo_seal 126 = .ok (.getfield 23, 3) := by decide +kernel
theorem d_Mo_seal_129 : decode b_Mo_seal 129 = .ok (.aload_n 0, 1) := by decide +kernel
theorem d_Mo_seal_130 : decode b_Mo_seal 130 = .ok (.getfield 44, 3) := by decide +kernel
theorem d_Mo_seal_133 : decode b_Mo_seal 133 = .ok (.iload_n 3, 1) := by decide +kernel
theorem d_Mo_seal_134 : decode b_Mo_seal 134 = .ok (.iaload, 1) := by decide +kernel
theorem d_Mo_seal_135 : decode b_Mo_seal 135 = .ok (.iaload, 1) := by decide +kernel
theorem d_Mo_seal_136 : decode b_Mo_seal 136 = .ok (.iconst 1, 1) := by decide +kernel
theorem d_Mo_seal_137 : decode b_Mo_seal 137 = .ok (.iadd, 1) := by decide +kernel
theorem d_Mo_seal_138 : decode b_Mo_seal 138 = .ok (.goto 9, 3) := by decide +kernel
theorem d_Mo_seal_141 : decode b_Mo_seal 141 = .ok (.aload_n 0, 1) := by decide +kernel
theorem d_Mo_seal_142 : decode b_Mo_seal 142 = .ok (.getfield 23, 3) := by decide +kernel
theorem d_Mo_seal_145 : decode b_Mo_seal 145 = .ok (.iload_n 2, 1) := by decide +kernel
theorem d_Mo_seal_146 : decode b_Mo_seal 146 = .ok (.iaload, 1) := by decide +kernel
theorem d_Mo_seal_147 : decode b_Mo_seal 147 = .ok (.iastore, 1) := by decide +kernel
theorem d_Mo_seal_148 : decode b_Mo_seal 148 = .ok (.iinc 3 1, 3) := by decide +kernel
theorem d_Mo_seal_151 : decode b_Mo_seal 151 = .ok (.goto (-122), 3) := by decide +kernel
theorem d_Mo_seal_154 : decode b_Mo_seal 154 = .ok (.aload_n 0, 1) := by decide +kernel
theorem d_Mo_seal_155 : decode b_Mo_seal 155 = .ok (.aload_n 0, 1) := by decide +kernel
theorem d_Mo_seal_156 : decode b_Mo_seal 156 = .ok (.getfield 163, 3) := by decide +kernel
theorem d_Mo_seal_159 : decode b_Mo_seal 159 = .ok (.iload_n 1, 1) := by decide +kernel
theorem d_Mo_seal_160 : decode b_Mo_seal 160 = .ok (.bipush 6, 2) := by decide +kernel
theorem d_Mo_seal_162 : decode b_Mo_seal 162 = .ok (.if_icmp .ne 12, 3) := by decide +kernel
theorem d_Mo_seal_165 : decode b_Mo_seal 165 = .ok (.iconst 2, 1) := by decide +kernel
theorem d_Mo_seal_166 : decode b_Mo_seal 166 = .ok (.aload_n 0, 1) := by decide +kernel
theorem d_Mo_seal_167 : decode b_Mo_seal 167 = .ok (.getfield 156, 3) := by decide +kernel
theorem d_Mo_seal_170 : decode b_Mo_seal 170 = .ok (.imul, 1) := by decide +kernel
theorem d_Mo_seal_171 : decode b_Mo_seal 171 = .ok (.goto 7, 3) := by decide +kernel
theorem d_Mo_seal_174 : decode b_Mo_seal 174 = .ok (.aload_n 0, 1) := by decide +kernel
theorem d_Mo_seal_175 : decode b_Mo_seal 175 = .ok (.getfield 156, 3) := by decide +kernel
theorem d_Mo_seal_178 : decode b_Mo_seal 178 = .ok (.iadd, 1) := by decide +kernel
theorem d_Mo_seal_179 : decode b_Mo_seal 179 = .ok (.putfield 163, 3) := by decide +kernel
theorem d_Mo_seal_182 : decode b_Mo_seal 182 = .ok (.iload_n 2, 1) := by decide +kernel
theorem d_Mo_seal_183 : decode b_Mo_seal 183 = .ok (.ireturn, 1) := by decide +kernel
set_option maxHeartbeats 4000000 in
set_option maxRecDepth 100000 in
theorem c_Mo_seal (l : Launch) (E : gh_E) (sz : Nat) (f : gh_F) (a : Nat) (ad : Nat → Nat) (S : Nat → Int32) (I : Nat → Nat → Int32) (J : Nat → Nat → Int64) (b0 nv pb np ky : Nat) (ks : List (List Int32)) (xs : List vt) (hX : mo_R E f a ad S I J) (hg : mg S I J b0 nv pb np ks xs) (hS11 : S 11 = nI nv) (hS12 : S 12 = nI np) (hnv : nv < 760) (h29 : 29 ≤ nv) (hx16 : xs.length ≤ 16) (hp8 : np + 2 * xs.length ≤ 8800) (hky : ky = 5 ∨ ky = 6) : gh_M l y_Mo_seal b_Mo_seal 4 (some .int) E sz [.ref a, .int (nI ky)] f { frames := 4, cells := 0, slots := 0, locals := 120 } (fun r g => r = some (.int (nI nv)) ∧ ∃ S2 I2 J2, mo_X E f g a ad S2 I2 J2 ∧ ma I J I2 J2 b0 nv pb np ∧ S2 11 = nI (nv + 1) ∧ S2 12 = nI (np + (if ky = 6 then 2 else 1) * xs.length) ∧ (∀ k, k ≠ 11 → k ≠ 12 → S2 k = S k) ∧ (∀ k j, k ≠ 10 → (k ≠ 1 ∧ k ≠ 3 ∧ k ≠ 4 ∧ k ≠ 5 ∧ k ≠ 9) → I2 k j = I k j) ∧ (I2 1 nv = nI ky ∧ I2 3 nv = nI xs.length ∧ I2 4 nv = nI (vt_wsum xs) ∧ I2 5 nv = nI (vt_hmax xs + 1) ∧ I2 9 nv = nI np ∧ (∀ j, j < xs.length → I2 10 (np + j) = I 14 j ∧ I2 10 (np + xs.length + j) = I 15 j) ∧ J2 2 nv = 0 ∧ J2 6 nv = 0 ∧ J2 7 nv = 0 ∧ J2 8 nv = 0)) := by
  have hgc := hg
  obtain ⟨B, K, hS16, hx32, hkx, hB, hK⟩ := hgc
  refine gh_open (by decide) (Nat.le_of_ble_eq_true rfl) ?_
  intro p e s m args below meth c A ls hAe C V hr hlocks hname hl
  have hx := C.1
  have hb := C.2.1
  have hl : lv_has ls 4 [(0, .ref a), (1, .int (nI ky))] := hl
  have X : mo_X E f f a ad S I J := ⟨hX, gh_fr.rf⟩
  refine lv_aload_n hx hb d_Mo_seal_0 rfl (lv_at hl 0 rfl) ?_
  refine lv_iload_n hx hb d_Mo_seal_1 rfl (lv_at hl 1 rfl) ?_
  refine lv_lconst (v := 0) hx hb d_Mo_seal_2 (by decide) ?_
  refine gh_callV C V hl.1 m_Mo_make l_Mo_159 (c_Mo_mk l E _ _ a ad _ _ _ (nI ky) 0 nv X.1 hS11 hnv) rfl X.1.1 gc_Mo ⟨by first | decide | omega | (dsimp only; omega), by first | decide | omega | (dsimp only; omega)⟩ ⟨by first | decide | omega | (dsimp only; omega), by first | decide | omega | (dsimp only; omega)⟩ (Nat.le_of_ble_eq_true rfl) rfl d_Mo_seal_3 (fun r z9 H locs hp V1 => ?_)
  obtain ⟨rfl, S2, I2, J2, X2, hmk⟩ := hp
  have X := X.then X2
  have V := V1
  have hS2_16 : S2 16 = nI xs.length := by rw [hmk.1, va_up_n (by decide)]; exact hS16
  have hS2_12 : S2 12 = nI np := by rw [hmk.1, va_up_n (by decide)]; exact hS12
  have hS16 := hS2_16
  have hS12 := hS2_12
  refine W.eq (g2 := F0 m 6 ls [.int (nI nv)]) rfl ?_
  refine lv_istore_n hx hb d_Mo_seal_6 rfl hl (by decide) rfl (fun ls hl => ?_)
  have hl : lv_has ls 4 [(2, .int (nI nv)), (0, .ref a), (1, .int (nI ky))] := hl
  refine lv_aload_n hx hb d_Mo_seal_7 rfl (lv_at hl 1 rfl) ?_
  refine mo_getA C V X 3 (by decide) (by decide) f_Mo_17 rfl d_Mo_seal_8 ?_
  refine lv_iload_n hx hb d_Mo_seal_11 rfl (lv_at hl 0 rfl) ?_
  refine lv_aload_n hx hb d_Mo_seal_12 rfl (lv_at hl 1 rfl) ?_
  refine mo_getS (v := nI (xs.length)) C V X 16 (by decide) (by decide) (by first | rfl | exact hS16) f_Mo_156 rfl d_Mo_seal_13 ?_
  refine mo_ist (k := 3) (i := nv) (n := 760) C V X (by decide) (by decide) rfl (by omega) (by decide) d_Mo_seal_16 (fun f1 H locs V1 X1 => ?_)
  clear V X
  have V := V1
  have X := X1
  clear V1 X1
  refine lv_aload_n hx hb d_Mo_seal_17 rfl (lv_at hl 1 rfl) ?_
  refine mo_getA C V X 9 (by decide) (by decide) f_Mo_35 rfl d_Mo_seal_18 ?_
  refine lv_iload_n hx hb d_Mo_seal_21 rfl (lv_at hl 0 rfl) ?_
  refine lv_aload_n hx hb d_Mo_seal_22 rfl (lv_at hl 1 rfl) ?_
  refine mo_getS (v := nI np) C V X 12 (by decide) (by decide) (by first | rfl | exact hS12) f_Mo_163 rfl d_Mo_seal_23 ?_
  refine mo_ist (k := 9) (i := nv) (n := 760) C V X (by decide) (by decide) rfl (by omega) (by decide) d_Mo_seal_26 (fun f1 H locs V1 X1 => ?_)
  clear V X
  have V := V1
  have X := X1
  clear V1 X1
  refine lv_iconst (v := 0) hx hb d_Mo_seal_27 (by decide) ?_
  refine lv_istore_n hx hb d_Mo_seal_28 rfl hl (by decide) rfl (fun ls hl => ?_)
  have hl : lv_has ls 4 [(3, .int 0), (2, .int (nI nv)), (0, .ref a), (1, .int (nI ky))] := hl
  have hI0 : ∃ I0 : mo_I, I0 = va_up (va_up I2 3 (upd (I2 3) nv (nI (xs.length)))) 9 (upd ((va_up I2 3 (upd (I2 3) nv (nI (xs.length)))) 9) nv (nI np)) := ⟨_, rfl⟩
  obtain ⟨I0, hI0⟩ := hI0
  rw [← hI0] at X
  have e1 : I0 1 nv = nI ky := by rw [hI0]; simp [va_up, upd]; exact hmk.2.2.1.1
  have e3 : I0 3 nv = nI xs.length := by rw [hI0]; simp [va_up, upd]
  have e4 : I0 4 nv = 1 := by rw [hI0]; simp [va_up, upd]; exact hmk.2.2.1.2.2.1
  have e5 : I0 5 nv = 1 := by rw [hI0]; simp [va_up, upd]; exact hmk.2.2.1.2.2.2
  have e9 : I0 9 nv = nI np := by rw [hI0]; simp [va_up, upd]
  have eo : ∀ k j, (k ≠ 1 ∧ k ≠ 3 ∧ k ≠ 4 ∧ k ≠ 5 ∧ k ≠ 9) ∨ j ≠ nv → I0 k j = I k j := fun k j hkj => by
    rw [hI0]
    by_cases k9 : k = 9
    · subst k9; rw [va_up_s, va_up_n (by decide)]; simp only [upd]; rw [if_neg (by omega)]; exact hmk.2.1 9 j (Or.inl (by decide))
    · rw [va_up_n k9]
      by_cases k3 : k = 3
      · subst k3; rw [va_up_s]; simp only [upd]; rw [if_neg (by omega)]; exact hmk.2.1 3 j (Or.inr (by omega))
      · rw [va_up_n k3]; exact hmk.2.1 k j (by omega)
  have hl : lv_has ls 4 [(3, .int 0), (0, .ref a), (1, .int (nI ky)), (2, .int (nI nv))] := lv_sub hl [0, 2, 3, 1] rfl
  have hl : lv_has ls 4 [(3, .int (nI 0)), (0, .ref a), (1, .int (nI ky)), (2, .int (nI nv))] := hl
  have loop : ∀ (n9 i9 : Nat) (S1 : Nat → Int32) (I1 : mo_I) (f1 : gh_F) (H : Heap) (locs : List Loc) (ls : Array Slot), i9 + n9 = xs.length → (I1 1 nv = nI ky) → (I1 3 nv = nI xs.length) → (I1 4 nv = nI (vt_wsum (xs.take i9))) → (I1 5 nv = nI (vt_hmax (xs.take i9) + 1)) → (I1 9 nv = nI np) → (∀ k j, k ≠ 10 → (k ≠ 1 ∧ k ≠ 3 ∧ k ≠ 4 ∧ k ≠ 5 ∧ k ≠ 9) ∨ j ≠ nv → I1 k j = I k j) → ((∀ q, q < np → I1 10 q = I 10 q) ∧ ∀ j, j < i9 → I1 10 (np + j) = I 14 j ∧ I1 10 (np + xs.length + j) = I 15 j) → (S1 = S2) → mo_X E f f1 a ad S1 I1 J2 → gh_V E A f1 s H locs → lv_has ls 4 [(3, .int (nI i9)), (0, .ref a), (1, .int (nI ky)), (2, .int (nI nv))] → W p l e { frames := 4, cells := 0, slots := 0, locals := 120 } s m args below meth c H locs 0 0 (MQ below (gh_Q E f (fun r g => r = some (.int (nI nv)) ∧ ∃ S2 I2 J2, mo_X E f g a ad S2 I2 J2 ∧ ma I J I2 J2 b0 nv pb np ∧ S2 11 = nI (nv + 1) ∧ S2 12 = nI (np + (if ky = 6 then 2 else 1) * xs.length) ∧ (∀ k, k ≠ 11 → k ≠ 12 → S2 k = S k) ∧ (∀ k j, k ≠ 10 → (k ≠ 1 ∧ k ≠ 3 ∧ k ≠ 4 ∧ k ≠ 5 ∧ k ≠ 9) → I2 k j = I k j) ∧ (I2 1 nv = nI ky ∧ I2 3 nv = nI xs.length ∧ I2 4 nv = nI (vt_wsum xs) ∧ I2 5 nv = nI (vt_hmax xs + 1) ∧ I2 9 nv = nI np ∧ (∀ j, j < xs.length → I2 10 (np + j) = I 14 j ∧ I2 10 (np + xs.length + j) = I 15 j) ∧ J2 2 nv = 0 ∧ J2 6 nv = 0 ∧ J2 7 nv = 0 ∧ J2 8 nv = 0))) args s 0 0 A) (F0 m 29 ls []) := by
    intro n9
    induction n9 with
    | zero =>
      intro i9 S1 I1 f1 H locs ls hi q1_ q3_ q4_ q5_ q9_ qo qp qS X V hl
      rw [qS] at X
      refine lv_iload_n hx hb d_Mo_seal_29 rfl (lv_at hl 0 rfl) ?_
      refine lv_aload_n hx hb d_Mo_seal_30 rfl (lv_at hl 1 rfl) ?_
      refine mo_getS (v := nI (xs.length)) C V X 16 (by decide) (by decide) (by first | rfl | exact hS16) f_Mo_156 rfl d_Mo_seal_31 ?_
      refine lv_icmp_ge (tgt := 154) hx hb d_Mo_seal_34 (by decide) (fun c1 => ?_) (fun c1 => absurd (nI_le (by omega) (by omega)) c1)
      refine lv_aload_n hx hb d_Mo_seal_154 rfl (lv_at hl 1 rfl) ?_
      refine lv_aload_n hx hb d_Mo_seal_155 rfl (lv_at hl 1 rfl) ?_
      refine mo_getS (v := nI np) C V X 12 (by decide) (by decide) (by first | rfl | exact hS12) f_Mo_163 rfl d_Mo_seal_156 ?_
      refine lv_iload_n hx hb d_Mo_seal_159 rfl (lv_at hl 2 rfl) ?_
      refine lv_bipush (v := 6) hx hb d_Mo_seal_160 (by decide) ?_
      refine lv_icmp_ne (tgt := 174) hx hb d_Mo_seal_162 (by decide) (fun c2 => ?_) (fun c2 => ?_)
      · have c2 : ¬ ky = 6 := by rw [← gq_eq (a := ky) (b := 6) (by omega) (by omega)]; exact c2
        refine lv_aload_n hx hb d_Mo_seal_174 rfl (lv_at hl 1 rfl) ?_
        refine mo_getS (v := nI (xs.length)) C V X 16 (by decide) (by decide) (by first | rfl | exact hS16) f_Mo_156 rfl d_Mo_seal_175 ?_
        refine gn_iadd (a := np) (b := xs.length) hx hb d_Mo_seal_178 ?_
        refine mo_putS C V X 12 (by decide) (by decide) f_Mo_163 rfl rfl rfl d_Mo_seal_179 (fun f1 H locs V1 X1 => ?_)
        clear V X
        have V := V1
        have X := X1
        clear V1 X1
        refine lv_iload_n hx hb d_Mo_seal_182 rfl (lv_at hl 3 rfl) ?_
        refine gh_reti hAe C V hr hlocks d_Mo_seal_183 (by first | decide | omega | (dsimp only; omega)) (by first | decide | omega | (dsimp only; omega)) ?_
        have hi9 : i9 = xs.length := by omega
        subst hi9
        rw [List.take_length] at q4_ q5_
        refine ⟨rfl, _, I1, J2, X, ?_, ?_, ?_, fun k h1 h2 => ?_, fun k j h10 hkj => qo k j h10 (Or.inl hkj), ?_⟩
        · exact ⟨fun k u hk hu => qo k u (by omega) (Or.inr (hu.new h29)), fun k u hk hu => hmk.2.2.2.1 k u (Or.inr (hu.new h29)), fun q _ hq => qp.1 q hq⟩
        · rw [va_up_n (by decide), hmk.1, va_up_s]
        · rw [va_up_s, if_neg (by omega), Nat.one_mul]
        · rw [va_up_n h2, hmk.1, va_up_n h1]
        · exact ⟨q1_, q3_, q4_, q5_, q9_, qp.2, hmk.2.2.2.2⟩
      · have c2 : ky = 6 := by rw [← gq_eq (a := ky) (b := 6) (by omega) (by omega)]; exact c2
        refine lv_iconst (v := 2) hx hb d_Mo_seal_165 (by decide) ?_
        refine lv_aload_n hx hb d_Mo_seal_166 rfl (lv_at hl 1 rfl) ?_
        refine mo_getS (v := nI (xs.length)) C V X 16 (by decide) (by decide) (by first | rfl | exact hS16) f_Mo_156 rfl d_Mo_seal_167 ?_
        refine gn_imul (a := 2) (b := xs.length) hx hb d_Mo_seal_170 ?_
        refine lv_goto (tgt := 178) hx hb d_Mo_seal_171 (by decide) ?_
        refine gn_iadd (a := np) (b := 2 * xs.length) hx hb d_Mo_seal_178 ?_
        refine mo_putS C V X 12 (by decide) (by decide) f_Mo_163 rfl rfl rfl d_Mo_seal_179 (fun f1 H locs V1 X1 => ?_)
        clear V X
        have V := V1
        have X := X1
        clear V1 X1
        refine lv_iload_n hx hb d_Mo_seal_182 rfl (lv_at hl 3 rfl) ?_
        refine gh_reti hAe C V hr hlocks d_Mo_seal_183 (by first | decide | omega | (dsimp only; omega)) (by first | decide | omega | (dsimp only; omega)) ?_
        have hi9 : i9 = xs.length := by omega
        subst hi9
        rw [List.take_length] at q4_ q5_
        refine ⟨rfl, _, I1, J2, X, ?_, ?_, ?_, fun k h1 h2 => ?_, fun k j h10 hkj => qo k j h10 (Or.inl hkj), ?_⟩
        · exact ⟨fun k u hk hu => qo k u (by omega) (Or.inr (hu.new h29)), fun k u hk hu => hmk.2.2.2.1 k u (Or.inr (hu.new h29)), fun q _ hq => qp.1 q hq⟩
        · rw [va_up_n (by decide), hmk.1, va_up_s]
        · rw [va_up_s, if_pos (by omega)]
        · rw [va_up_n h2, hmk.1, va_up_n h1]
        · exact ⟨q1_, q3_, q4_, q5_, q9_, qp.2, hmk.2.2.2.2⟩
    | succ n9 ih =>
      intro i9 S1 I1 f1 H locs ls hi q1_ q3_ q4_ q5_ q9_ qo qp qS X V hl
      rw [qS] at X
      have hB9 := hB i9 (by omega)
      obtain ⟨hav9, -, -, -, -, hsz9, hht9, -⟩ := mv_o.mp hB9.2.1
      have hbn := hav9.new h29
      have hit9 : I1 14 i9 = nI (B i9) := by rw [qo 14 i9 (by decide) (Or.inl (by decide))]; exact hB9.1
      have hsz9 : I1 4 (B i9) = nI (vt_w (xs.getD i9 (vt_0 0))) := by rw [qo 4 _ (by decide) (Or.inr hbn)]; exact hsz9
      have hht9 : I1 5 (B i9) = nI (vt_h (xs.getD i9 (vt_0 0)) + 1) := by rw [qo 5 _ (by decide) (Or.inr hbn)]; exact hht9
      have hlim := hB9.2.2
      have hbl := (vo_o.mp hlim).2.2.2.2.2.2.2.1
      have hbh := (vo_o.mp hlim).2.2.2.2.2.2.2.2.1.1
      have hb7 := hav9.2
      have hws := vt_wsum_le (xs := xs.take i9) (B := 100) (fun j hj => by have hj2 : j < i9 := by { simp at hj; omega }; rw [show (xs.take i9).getD j (vt_0 0) = xs.getD j (vt_0 0) by simp [List.getD, hj2]]; exact (vo_o.mp (hB j (by omega)).2.2).2.2.2.2.2.2.2.1)
      have hhs := vt_hmax_le (xs := xs.take i9) (B := 7) (fun j hj => by have hj2 : j < i9 := by { simp at hj; omega }; rw [show (xs.take i9).getD j (vt_0 0) = xs.getD j (vt_0 0) by simp [List.getD, hj2]]; exact (vo_o.mp (hB j (by omega)).2.2).2.2.2.2.2.2.2.2.1.1)
      have htl : (xs.take i9).length ≤ 16 := by simp; omega
      refine lv_iload_n hx hb d_Mo_seal_29 rfl (lv_at hl 0 rfl) ?_
      refine lv_aload_n hx hb d_Mo_seal_30 rfl (lv_at hl 1 rfl) ?_
      refine mo_getS (v := nI (xs.length)) C V X 16 (by decide) (by decide) (by first | rfl | exact hS16) f_Mo_156 rfl d_Mo_seal_31 ?_
      refine lv_icmp_ge (tgt := 154) hx hb d_Mo_seal_34 (by decide) (fun c3 => absurd c3 (nI_ge (by omega) (by omega))) (fun c3 => ?_)
      refine lv_aload_n hx hb d_Mo_seal_37 rfl (lv_at hl 1 rfl) ?_
      refine mo_getA C V X 10 (by decide) (by decide) f_Mo_38 rfl d_Mo_seal_38 ?_
      refine lv_aload_n hx hb d_Mo_seal_41 rfl (lv_at hl 1 rfl) ?_
      refine mo_getS (v := nI np) C V X 12 (by decide) (by decide) (by first | rfl | exact hS12) f_Mo_163 rfl d_Mo_seal_42 ?_
      refine lv_iload_n hx hb d_Mo_seal_45 rfl (lv_at hl 0 rfl) ?_
      refine gn_iadd (a := np) (b := i9) hx hb d_Mo_seal_46 ?_
      refine lv_aload_n hx hb d_Mo_seal_47 rfl (lv_at hl 1 rfl) ?_
      refine mo_getA C V X 14 (by decide) (by decide) f_Mo_44 rfl d_Mo_seal_48 ?_
      refine lv_iload_n hx hb d_Mo_seal_51 rfl (lv_at hl 0 rfl) ?_
      refine mo_ild (k := 14) (i := i9) (n := 32) C V X (by decide) (by decide) rfl (by omega) (by decide) d_Mo_seal_52 ?_
      rw [show I1 14 i9 = nI (B i9) from (by simp [va_up, upd, hit9])]
      refine mo_ist (k := 10) (i := np + i9) (n := 8800) C V X (by decide) (by decide) rfl (by omega) (by decide) d_Mo_seal_53 (fun f1 H locs V1 X1 => ?_)
      clear V X
      have V := V1
      have X := X1
      clear V1 X1
      refine lv_aload_n hx hb d_Mo_seal_54 rfl (lv_at hl 1 rfl) ?_
      refine mo_getA C V X 10 (by decide) (by decide) f_Mo_38 rfl d_Mo_seal_55 ?_
      refine lv_aload_n hx hb d_Mo_seal_58 rfl (lv_at hl 1 rfl) ?_
      refine mo_getS (v := nI np) C V X 12 (by decide) (by decide) (by first | rfl | exact hS12) f_Mo_163 rfl d_Mo_seal_59 ?_
      refine lv_aload_n hx hb d_Mo_seal_62 rfl (lv_at hl 1 rfl) ?_
      refine mo_getS (v := nI (xs.length)) C V X 16 (by decide) (by decide) (by first | rfl | exact hS16) f_Mo_156 rfl d_Mo_seal_63 ?_
      refine gn_iadd (a := np) (b := xs.length) hx hb d_Mo_seal_66 ?_
      refine lv_iload_n hx hb d_Mo_seal_67 rfl (lv_at hl 0 rfl) ?_
      refine gn_iadd (a := np + xs.length) (b := i9) hx hb d_Mo_seal_68 ?_
      refine lv_aload_n hx hb d_Mo_seal_69 rfl (lv_at hl 1 rfl) ?_
      refine mo_getA C V X 15 (by decide) (by decide) f_Mo_47 rfl d_Mo_seal_70 ?_
      refine lv_iload_n hx hb d_Mo_seal_73 rfl (lv_at hl 0 rfl) ?_
      refine mo_ild (k := 15) (i := i9) (n := 32) C V X (by decide) (by decide) rfl (by omega) (by decide) d_Mo_seal_74 ?_
      refine mo_ist (k := 10) (i := (np + xs.length) + i9) (n := 8800) C V X (by decide) (by decide) rfl (by omega) (by decide) d_Mo_seal_75 (fun f1 H locs V1 X1 => ?_)
      clear V X
      have V := V1
      have X := X1
      clear V1 X1
      refine lv_aload_n hx hb d_Mo_seal_76 rfl (lv_at hl 1 rfl) ?_
      refine mo_getA C V X 4 (by decide) (by decide) f_Mo_20 rfl d_Mo_seal_77 ?_
      refine lv_iload_n hx hb d_Mo_seal_80 rfl (lv_at hl 3 rfl) ?_
      refine lv_aload_n hx hb d_Mo_seal_81 rfl (lv_at hl 1 rfl) ?_
      refine mo_getA C V X 4 (by decide) (by decide) f_Mo_20 rfl d_Mo_seal_82 ?_
      refine lv_iload_n hx hb d_Mo_seal_85 rfl (lv_at hl 3 rfl) ?_
      refine mo_ild (k := 4) (i := nv) (n := 760) C V X (by decide) (by decide) rfl (by omega) (by decide) d_Mo_seal_86 ?_
      rw [show (va_up (va_up I1 10 (upd (I1 10) (np + i9) (nI (B i9)))) 10 (upd ((va_up I1 10 (upd (I1 10) (np + i9) (nI (B i9)))) 10) ((np + xs.length) + i9) ((va_up I1 10 (upd (I1 10) (np + i9) (nI (B i9)))) 15 i9))) 4 nv = nI (vt_wsum (xs.take i9)) from (by simp [va_up, upd, q4_])]
      refine lv_aload_n hx hb d_Mo_seal_87 rfl (lv_at hl 1 rfl) ?_
      refine mo_getA C V X 4 (by decide) (by decide) f_Mo_20 rfl d_Mo_seal_88 ?_
      refine lv_aload_n hx hb d_Mo_seal_91 rfl (lv_at hl 1 rfl) ?_
      refine mo_getA C V X 14 (by decide) (by decide) f_Mo_44 rfl d_Mo_seal_92 ?_
      refine lv_iload_n hx hb d_Mo_seal_95 rfl (lv_at hl 0 rfl) ?_
      refine mo_ild (k := 14) (i := i9) (n := 32) C V X (by decide) (by decide) rfl (by omega) (by decide) d_Mo_seal_96 ?_
      rw [show (va_up (va_up I1 10 (upd (I1 10) (np + i9) (nI (B i9)))) 10 (upd ((va_up I1 10 (upd (I1 10) (np + i9) (nI (B i9)))) 10) ((np + xs.length) + i9) ((va_up I1 10 (upd (I1 10) (np + i9) (nI (B i9)))) 15 i9))) 14 i9 = nI (B i9) from (by simp [va_up, upd, hit9])]
      refine mo_ild (k := 4) (i := B i9) (n := 760) C V X (by decide) (by decide) rfl (by omega) (by decide) d_Mo_seal_97 ?_
      rw [show (va_up (va_up I1 10 (upd (I1 10) (np + i9) (nI (B i9)))) 10 (upd ((va_up I1 10 (upd (I1 10) (np + i9) (nI (B i9)))) 10) ((np + xs.length) + i9) ((va_up I1 10 (upd (I1 10) (np + i9) (nI (B i9)))) 15 i9))) 4 (B i9) = nI (vt_w (xs.getD i9 (vt_0 0))) from (by simp [va_up, upd, hsz9])]
      refine gn_iadd (a := vt_wsum (xs.take i9)) (b := vt_w (xs.getD i9 (vt_0 0))) hx hb d_Mo_seal_98 ?_
      refine mo_ist (k := 4) (i := nv) (n := 760) C V X (by decide) (by decide) rfl (by omega) (by decide) d_Mo_seal_99 (fun f1 H locs V1 X1 => ?_)
      clear V X
      have V := V1
      have X := X1
      clear V1 X1
      refine lv_aload_n hx hb d_Mo_seal_100 rfl (lv_at hl 1 rfl) ?_
      refine mo_getA C V X 5 (by decide) (by decide) f_Mo_23 rfl d_Mo_seal_101 ?_
      refine lv_iload_n hx hb d_Mo_seal_104 rfl (lv_at hl 3 rfl) ?_
      refine lv_aload_n hx hb d_Mo_seal_105 rfl (lv_at hl 1 rfl) ?_
      refine mo_getA C V X 5 (by decide) (by decide) f_Mo_23 rfl d_Mo_seal_106 ?_
      refine lv_aload_n hx hb d_Mo_seal_109 rfl (lv_at hl 1 rfl) ?_
      refine mo_getA C V X 14 (by decide) (by decide) f_Mo_44 rfl d_Mo_seal_110 ?_
      refine lv_iload_n hx hb d_Mo_seal_113 rfl (lv_at hl 0 rfl) ?_
      refine mo_ild (k := 14) (i := i9) (n := 32) C V X (by decide) (by decide) rfl (by omega) (by decide) d_Mo_seal_114 ?_
      rw [show (va_up (va_up (va_up I1 10 (upd (I1 10) (np + i9) (nI (B i9)))) 10 (upd ((va_up I1 10 (upd (I1 10) (np + i9) (nI (B i9)))) 10) ((np + xs.length) + i9) ((va_up I1 10 (upd (I1 10) (np + i9) (nI (B i9)))) 15 i9))) 4 (upd ((va_up (va_up I1 10 (upd (I1 10) (np + i9) (nI (B i9)))) 10 (upd ((va_up I1 10 (upd (I1 10) (np + i9) (nI (B i9)))) 10) ((np + xs.length) + i9) ((va_up I1 10 (upd (I1 10) (np + i9) (nI (B i9)))) 15 i9))) 4) nv (nI ((vt_wsum (xs.take i9)) + (vt_w (xs.getD i9 (vt_0 0))))))) 14 i9 = nI (B i9) from (by simp [va_up, upd, hit9])]
      refine mo_ild (k := 5) (i := B i9) (n := 760) C V X (by decide) (by decide) rfl (by omega) (by decide) d_Mo_seal_115 ?_
      rw [show (va_up (va_up (va_up I1 10 (upd (I1 10) (np + i9) (nI (B i9)))) 10 (upd ((va_up I1 10 (upd (I1 10) (np + i9) (nI (B i9)))) 10) ((np + xs.length) + i9) ((va_up I1 10 (upd (I1 10) (np + i9) (nI (B i9)))) 15 i9))) 4 (upd ((va_up (va_up I1 10 (upd (I1 10) (np + i9) (nI (B i9)))) 10 (upd ((va_up I1 10 (upd (I1 10) (np + i9) (nI (B i9)))) 10) ((np + xs.length) + i9) ((va_up I1 10 (upd (I1 10) (np + i9) (nI (B i9)))) 15 i9))) 4) nv (nI ((vt_wsum (xs.take i9)) + (vt_w (xs.getD i9 (vt_0 0))))))) 5 (B i9) = nI (vt_h (xs.getD i9 (vt_0 0)) + 1) from (by simp [va_up, upd, hht9])]
      refine lv_aload_n hx hb d_Mo_seal_116 rfl (lv_at hl 1 rfl) ?_
      refine mo_getA C V X 5 (by decide) (by decide) f_Mo_23 rfl d_Mo_seal_117 ?_
      refine lv_iload_n hx hb d_Mo_seal_120 rfl (lv_at hl 3 rfl) ?_
      refine mo_ild (k := 5) (i := nv) (n := 760) C V X (by decide) (by decide) rfl (by omega) (by decide) d_Mo_seal_121 ?_
      rw [show (va_up (va_up (va_up I1 10 (upd (I1 10) (np + i9) (nI (B i9)))) 10 (upd ((va_up I1 10 (upd (I1 10) (np + i9) (nI (B i9)))) 10) ((np + xs.length) + i9) ((va_up I1 10 (upd (I1 10) (np + i9) (nI (B i9)))) 15 i9))) 4 (upd ((va_up (va_up I1 10 (upd (I1 10) (np + i9) (nI (B i9)))) 10 (upd ((va_up I1 10 (upd (I1 10) (np + i9) (nI (B i9)))) 10) ((np + xs.length) + i9) ((va_up I1 10 (upd (I1 10) (np + i9) (nI (B i9)))) 15 i9))) 4) nv (nI ((vt_wsum (xs.take i9)) + (vt_w (xs.getD i9 (vt_0 0))))))) 5 nv = nI (vt_hmax (xs.take i9) + 1) from (by simp [va_up, upd, q5_])]
      refine lv_icmp_lt (tgt := 141) hx hb d_Mo_seal_122 (by decide) (fun c4 => ?_) (fun c4 => ?_)
      · have c4 : (vt_h (xs.getD i9 (vt_0 0)) + 1) < (vt_hmax (xs.take i9) + 1) := by rw [← gq_lt (a := vt_h (xs.getD i9 (vt_0 0)) + 1) (b := vt_hmax (xs.take i9) + 1) (by omega) (by omega)]; exact c4
        refine lv_aload_n hx hb d_Mo_seal_141 rfl (lv_at hl 1 rfl) ?_
        refine mo_getA C V X 5 (by decide) (by decide) f_Mo_23 rfl d_Mo_seal_142 ?_
        refine lv_iload_n hx hb d_Mo_seal_145 rfl (lv_at hl 3 rfl) ?_
        refine mo_ild (k := 5) (i := nv) (n := 760) C V X (by decide) (by decide) rfl (by omega) (by decide) d_Mo_seal_146 ?_
        rw [show (va_up (va_up (va_up I1 10 (upd (I1 10) (np + i9) (nI (B i9)))) 10 (upd ((va_up I1 10 (upd (I1 10) (np + i9) (nI (B i9)))) 10) ((np + xs.length) + i9) ((va_up I1 10 (upd (I1 10) (np + i9) (nI (B i9)))) 15 i9))) 4 (upd ((va_up (va_up I1 10 (upd (I1 10) (np + i9) (nI (B i9)))) 10 (upd ((va_up I1 10 (upd (I1 10) (np + i9) (nI (B i9)))) 10) ((np + xs.length) + i9) ((va_up I1 10 (upd (I1 10) (np + i9) (nI (B i9)))) 15 i9))) 4) nv (nI ((vt_wsum (xs.take i9)) + (vt_w (xs.getD i9 (vt_0 0))))))) 5 nv = nI (vt_hmax (xs.take i9) + 1) from (by simp [va_up, upd, q5_])]
        refine mo_ist (k := 5) (i := nv) (n := 760) C V X (by decide) (by decide) rfl (by omega) (by decide) d_Mo_seal_147 (fun f1 H locs V1 X1 => ?_)
        clear V X
        have V := V1
        have X := X1
        clear V1 X1
        refine lv_iinc (k := 0) (v := (nI i9) + 1) hx hb d_Mo_seal_148 hl rfl (by rfl) (by decide) rfl (fun ls hl => ?_)
        have hl : lv_has ls 4 [(3, .int (nI (i9 + 1))), (0, .ref a), (1, .int (nI ky)), (2, .int (nI nv))] := by rw [nI_succ]; exact hl
        refine lv_goto (tgt := 29) hx hb d_Mo_seal_151 (by decide) ?_
        have hl : lv_has ls 4 [(3, .int (nI (i9 + 1))), (0, .ref a), (1, .int (nI ky)), (2, .int (nI nv))] := lv_sub hl [0, 1, 2, 3] rfl
        have hl : lv_has ls 4 [(3, .int (nI (i9 + 1))), (0, .ref a), (1, .int (nI ky)), (2, .int (nI nv))] := hl
        have htk := vt_take (xs := xs) (n := i9) (by omega)
        refine ih (i9 + 1) S2 _ _ H locs ls (by omega) ?_ ?_ ?_ ?_ ?_ ?_ ?_ rfl X V hl
        · simp [va_up, upd]; exact q1_
        · simp [va_up, upd]; exact q3_
        · rw [htk, vt_wsum_app]; simp [va_up, upd]
        · rw [htk, vt_hmax_app]; simp [va_up, upd]; congr 1; have hgd : vt_h (xs[i9]?.getD (vt_0 0)) = vt_h (xs.getD i9 (vt_0 0)) := rfl; omega
        · simp [va_up, upd]; exact q9_
        · intro k j h10 hkj
          have := qo k j h10 hkj
          by_cases k5 : k = 5
          · subst k5; have hj : j ≠ nv := by omega
            simp [va_up, upd, hj]; exact this
          · by_cases k4 : k = 4
            · subst k4; have hj : j ≠ nv := by omega
              simp [va_up, upd, hj]; exact this
            · simp [va_up, k5, k4, h10]; exact this
        · have h15 : I1 15 i9 = I 15 i9 := qo 15 i9 (by decide) (Or.inl (by decide))
          refine ⟨fun q hq => ?_, fun j hj => ?_⟩
          · rw [va_up_n (by decide), va_up_n (by decide), va_up_s, va_up_s]; simp only [upd]; rw [if_neg (by omega), if_neg (by omega)]; exact qp.1 q hq
          · by_cases hji : j = i9
            · subst hji
              refine ⟨?_, ?_⟩
              · rw [va_up_n (by decide), va_up_n (by decide), va_up_s, va_up_s]; simp only [upd]; rw [if_neg (by omega), if_pos trivial]; exact hB9.1.symm
              · rw [va_up_n (by decide), va_up_n (by decide), va_up_s, va_up_s]; simp only [upd]; rw [if_pos trivial, va_up_n (by decide)]; exact h15
            · have := qp.2 j (by omega)
              refine ⟨?_, ?_⟩
              · rw [va_up_n (by decide), va_up_n (by decide), va_up_s, va_up_s]; simp only [upd]; rw [if_neg (by omega), if_neg (by omega)]; exact this.1
              · rw [va_up_n (by decide), va_up_n (by decide), va_up_s, va_up_s]; simp only [upd]; rw [if_neg (by omega), if_neg (by omega)]; exact this.2
      · have c4 : ¬ (vt_h (xs.getD i9 (vt_0 0)) + 1) < (vt_hmax (xs.take i9) + 1) := by rw [← gq_lt (a := vt_h (xs.getD i9 (vt_0 0)) + 1) (b := vt_hmax (xs.take i9) + 1) (by omega) (by omega)]; exact c4
        refine lv_aload_n hx hb d_Mo_seal_125 rfl (lv_at hl 1 rfl) ?_
        refine mo_getA C V X 5 (by decide) (by decide) f_Mo_23 rfl d_Mo_seal_126 ?_
        refine lv_aload_n hx hb d_Mo_seal_129 rfl (lv_at hl 1 rfl) ?_
        refine mo_getA C V X 14 (by decide) (by decide) f_Mo_44 rfl d_Mo_seal_130 ?_
        refine lv_iload_n hx hb d_Mo_seal_133 rfl (lv_at hl 0 rfl) ?_
        refine mo_ild (k := 14) (i := i9) (n := 32) C V X (by decide) (by decide) rfl (by omega) (by decide) d_Mo_seal_134 ?_
        rw [show (va_up (va_up (va_up I1 10 (upd (I1 10) (np + i9) (nI (B i9)))) 10 (upd ((va_up I1 10 (upd (I1 10) (np + i9) (nI (B i9)))) 10) ((np + xs.length) + i9) ((va_up I1 10 (upd (I1 10) (np + i9) (nI (B i9)))) 15 i9))) 4 (upd ((va_up (va_up I1 10 (upd (I1 10) (np + i9) (nI (B i9)))) 10 (upd ((va_up I1 10 (upd (I1 10) (np + i9) (nI (B i9)))) 10) ((np + xs.length) + i9) ((va_up I1 10 (upd (I1 10) (np + i9) (nI (B i9)))) 15 i9))) 4) nv (nI ((vt_wsum (xs.take i9)) + (vt_w (xs.getD i9 (vt_0 0))))))) 14 i9 = nI (B i9) from (by simp [va_up, upd, hit9])]
        refine mo_ild (k := 5) (i := B i9) (n := 760) C V X (by decide) (by decide) rfl (by omega) (by decide) d_Mo_seal_135 ?_
        rw [show (va_up (va_up (va_up I1 10 (upd (I1 10) (np + i9) (nI (B i9)))) 10 (upd ((va_up I1 10 (upd (I1 10) (np + i9) (nI (B i9)))) 10) ((np + xs.length) + i9) ((va_up I1 10 (upd (I1 10) (np + i9) (nI (B i9)))) 15 i9))) 4 (upd ((va_up (va_up I1 10 (upd (I1 10) (np + i9) (nI (B i9)))) 10 (upd ((va_up I1 10 (upd (I1 10) (np + i9) (nI (B i9)))) 10) ((np + xs.length) + i9) ((va_up I1 10 (upd (I1 10) (np + i9) (nI (B i9)))) 15 i9))) 4) nv (nI ((vt_wsum (xs.take i9)) + (vt_w (xs.getD i9 (vt_0 0))))))) 5 (B i9) = nI (vt_h (xs.getD i9 (vt_0 0)) + 1) from (by simp [va_up, upd, hht9])]
        refine lv_iconst (v := 1) hx hb d_Mo_seal_136 (by decide) ?_
        refine gn_iadd (a := vt_h (xs.getD i9 (vt_0 0)) + 1) (b := 1) hx hb d_Mo_seal_137 ?_
        refine lv_goto (tgt := 147) hx hb d_Mo_seal_138 (by decide) ?_
        refine mo_ist (k := 5) (i := nv) (n := 760) C V X (by decide) (by decide) rfl (by omega) (by decide) d_Mo_seal_147 (fun f1 H locs V1 X1 => ?_)
        clear V X
        have V := V1
        have X := X1
        clear V1 X1
        refine lv_iinc (k := 0) (v := (nI i9) + 1) hx hb d_Mo_seal_148 hl rfl (by rfl) (by decide) rfl (fun ls hl => ?_)
        have hl : lv_has ls 4 [(3, .int (nI (i9 + 1))), (0, .ref a), (1, .int (nI ky)), (2, .int (nI nv))] := by rw [nI_succ]; exact hl
        refine lv_goto (tgt := 29) hx hb d_Mo_seal_151 (by decide) ?_
        have hl : lv_has ls 4 [(3, .int (nI (i9 + 1))), (0, .ref a), (1, .int (nI ky)), (2, .int (nI nv))] := lv_sub hl [0, 1, 2, 3] rfl
        have hl : lv_has ls 4 [(3, .int (nI (i9 + 1))), (0, .ref a), (1, .int (nI ky)), (2, .int (nI nv))] := hl
        have htk := vt_take (xs := xs) (n := i9) (by omega)
        refine ih (i9 + 1) S2 _ _ H locs ls (by omega) ?_ ?_ ?_ ?_ ?_ ?_ ?_ rfl X V hl
        · simp [va_up, upd]; exact q1_
        · simp [va_up, upd]; exact q3_
        · rw [htk, vt_wsum_app]; simp [va_up, upd]
        · rw [htk, vt_hmax_app]; simp [va_up, upd]; congr 1; have hgd : vt_h (xs[i9]?.getD (vt_0 0)) = vt_h (xs.getD i9 (vt_0 0)) := rfl; omega
        · simp [va_up, upd]; exact q9_
        · intro k j h10 hkj
          have := qo k j h10 hkj
          by_cases k5 : k = 5
          · subst k5; have hj : j ≠ nv := by omega
            simp [va_up, upd, hj]; exact this
          · by_cases k4 : k = 4
            · subst k4; have hj : j ≠ nv := by omega
              simp [va_up, upd, hj]; exact this
            · simp [va_up, k5, k4, h10]; exact this
        · have h15 : I1 15 i9 = I 15 i9 := qo 15 i9 (by decide) (Or.inl (by decide))
          refine ⟨fun q hq => ?_, fun j hj => ?_⟩
          · rw [va_up_n (by decide), va_up_n (by decide), va_up_s, va_up_s]; simp only [upd]; rw [if_neg (by omega), if_neg (by omega)]; exact qp.1 q hq
          · by_cases hji : j = i9
            · subst hji
              refine ⟨?_, ?_⟩
              · rw [va_up_n (by decide), va_up_n (by decide), va_up_s, va_up_s]; simp only [upd]; rw [if_neg (by omega), if_pos trivial]; exact hB9.1.symm
              · rw [va_up_n (by decide), va_up_n (by decide), va_up_s, va_up_s]; simp only [upd]; rw [if_pos trivial, va_up_n (by decide)]; exact h15
            · have := qp.2 j (by omega)
              refine ⟨?_, ?_⟩
              · rw [va_up_n (by decide), va_up_n (by decide), va_up_s, va_up_s]; simp only [upd]; rw [if_neg (by omega), if_neg (by omega)]; exact this.1
              · rw [va_up_n (by decide), va_up_n (by decide), va_up_s, va_up_s]; simp only [upd]; rw [if_neg (by omega), if_neg (by omega)]; exact this.2
  exact loop (xs.length) 0 S2 I0 _ _ _ ls (by omega) e1 e3 e4 e5 e9 (fun k j _ h => eo k j h) ⟨fun q _ => eo 10 q (Or.inl (by decide)), fun j hj => absurd hj (Nat.not_lt_zero j)⟩ rfl X V hl
