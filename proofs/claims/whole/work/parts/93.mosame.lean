/-! same of the model. Printed by wip/whole/gen_mo14.py. -/
theorem i32_sub0 {x y : Int32} (h : x - y = 0) : x = y := by
  have := congrArg (· + y) h
  simpa using this
theorem nI_npos {n : Nat} (h : n + 1 < 2 ^ 31) : ¬ nI (n + 1) ≤ 0 := by
  rw [Int32.le_iff_toInt_le, nI_toInt h]
  show ¬ ((n + 1 : Nat) : Int) ≤ 0
  omega
theorem nI_dec {n : Nat} (h : 1 ≤ n) : nI (n - 1) = nI n + (-1) := by
  obtain ⟨m, rfl⟩ : ∃ m, n = m + 1 := ⟨n - 1, by omega⟩
  rw [Nat.add_sub_cancel, nI_succ, Int32.add_assoc]
  exact (Int32.add_zero _).symm
theorem vt_cmp_len {X Y : List Int32} (hx : X.length ≤ 24) (hy : Y.length ≤ 24) : ∀ n i, vt_cmp X Y n i = 0 → X.length = Y.length := by
  have hb : nI X.length - nI Y.length = 0 → X.length = Y.length := fun h => by
    have h1 := congrArg Int32.toInt (i32_sub0 h)
    rw [nI_toInt (by omega), nI_toInt (by omega)] at h1
    omega
  intro n
  induction n with
  | zero => intro i h; exact hb h
  | succ n ih =>
    intro i h
    unfold vt_cmp at h
    split at h
    · split at h
      · exact ih _ h
      · rename_i h2; exact absurd (i32_sub0 h) h2
    · exact hb h
theorem vt_sml_c {g g' : vt → vt → Bool} {X Y : vt} (h : ∀ i, i < vt_c X → ∀ Z, g (vt_s X i) Z = g' (vt_s X i) Z) : ∀ m i, i + m ≤ vt_c X → vt_sml g X Y m i = vt_sml g' X Y m i := by
  intro m
  induction m with
  | zero => intro i _; rfl
  | succ m ih =>
    intro i hi
    unfold vt_sml
    split
    · rfl
    · rw [h i (by omega), ih (i + 1) (by omega)]
theorem vt_sm_st : ∀ (n m N : Nat) (X Y : vt), vo N X → vt_h X < n → vt_h X < m → vt_sm n X Y = vt_sm m X Y := by
  intro n
  induction n with
  | zero => intro m N X Y _ h; exact absurd h (Nat.not_lt_zero _)
  | succ n ih =>
    intro m N X Y hv hn hm
    cases m with
    | zero => exact absurd hm (Nat.not_lt_zero _)
    | succ m =>
      cases N with
      | zero => exact hv.elim
      | succ N =>
        have ho := (vo_o.mp hv).2.2.2.2.2.2.2.2.2.2.2
        unfold vt_sm
        rw [vt_sml_c (g := vt_sm n) (g' := vt_sm m) (fun i hi Z => ih m N _ Z (ho i hi).2 (by have := (ho i hi).1; omega) (by have := (ho i hi).1; omega)) (vt_c X) 0 (by omega)]
theorem vt_sm8 {X Y : vt} (hX : vo 8 X) : vt_sm 8 X Y = if vt_k X = vt_k Y ∧ vt_c X = vt_c Y ∧ vt_n X = vt_n Y ∧ vt_ord (vt_l X) (vt_l Y) = 0 then vt_sml (vt_sm 8) X Y (vt_c X) 0 else false := by
  have ho := vo_o.mp hX
  show (if _ then vt_sml (vt_sm 7) X Y (vt_c X) 0 else false) = _
  rw [vt_sml_c (g := vt_sm 7) (g' := vt_sm 8) (fun i hi Z => vt_sm_st 7 8 7 _ Z (ho.2.2.2.2.2.2.2.2.2.2.2 i hi).2 (by have := (ho.2.2.2.2.2.2.2.2.2.2.2 i hi).1; omega) (by have := (ho.2.2.2.2.2.2.2.2.2.2.2 i hi).1; omega)) (vt_c X) 0 (by omega)]
theorem vt_ws_mono {X : vt} {i : Nat} : ∀ n, vt_ws X i ≤ vt_ws X (i + n) := by
  intro n
  induction n with
  | zero => exact Nat.le_refl _
  | succ n ih => exact Nat.le_trans ih (Nat.le_add_right _ _)
def ss_A (P Q : Nat → vt) : Nat → Bool
  | 0 => true
  | n + 1 => ss_A P Q n && vt_sm 8 (P n) (Q n)
def ss_W (P : Nat → vt) : Nat → Nat
  | 0 => 0
  | n + 1 => ss_W P n + vt_w (P n)
def ss_p (P : Nat → vt) (n : Nat) (X : vt) (j : Nat) : vt := if j = n then X else P j
theorem ss_A_p {P Q : Nat → vt} {N : Nat} {X Y : vt} : ∀ n, n ≤ N → ss_A (ss_p P N X) (ss_p Q N Y) n = ss_A P Q n := by
  intro n
  induction n with
  | zero => intro _; rfl
  | succ n ih =>
    intro h
    show (ss_A (ss_p P N X) (ss_p Q N Y) n && vt_sm 8 (ss_p P N X n) (ss_p Q N Y n)) = _
    rw [ih (by omega)]; unfold ss_p; rw [if_neg (by omega), if_neg (by omega)]; rfl
theorem ss_A_s {P Q : Nat → vt} {N : Nat} {X Y : vt} : ss_A (ss_p P N X) (ss_p Q N Y) (N + 1) = (ss_A P Q N && vt_sm 8 X Y) := by
  show (ss_A (ss_p P N X) (ss_p Q N Y) N && vt_sm 8 (ss_p P N X N) (ss_p Q N Y N)) = _
  rw [ss_A_p N (Nat.le_refl _)]; unfold ss_p; rw [if_pos rfl, if_pos rfl]
theorem ss_W_p {P : Nat → vt} {N : Nat} {X : vt} : ∀ n, n ≤ N → ss_W (ss_p P N X) n = ss_W P n := by
  intro n
  induction n with
  | zero => intro _; rfl
  | succ n ih =>
    intro h
    show ss_W (ss_p P N X) n + vt_w (ss_p P N X n) = _
    rw [ih (by omega)]; unfold ss_p; rw [if_neg (by omega)]; rfl
theorem ss_W_s {P : Nat → vt} {N : Nat} {X : vt} : ss_W (ss_p P N X) (N + 1) = ss_W P N + vt_w X := by
  show ss_W (ss_p P N X) N + vt_w (ss_p P N X N) = _
  rw [ss_W_p N (Nat.le_refl _)]; unfold ss_p; rw [if_pos rfl]
/-- the pairs that are still to be compared -/
def ss_R (I I1 : mo_I) (J : mo_J) (b0 nv pb np n : Nat) (P Q : Nat → vt) : Prop := (∀ k, k ≠ 58 → k ≠ 59 → I1 k = I k) ∧ ∀ j, j < n → ∃ u v, I1 58 j = nI u ∧ I1 59 j = nI v ∧ mw I J b0 nv pb np u (P j) ∧ mw I J b0 nv pb np v (Q j)
theorem ss_R.ma {I I1 : mo_I} {J : mo_J} {b0 nv pb np n : Nat} {P Q : Nat → vt} (h : ss_R I I1 J b0 nv pb np n P Q) : ma I J I1 J b0 nv pb np := ma_other (fun k hk => h.1 k (by omega) (by omega))
theorem ss_R.ge {I I1 : mo_I} {J : mo_J} {b0 nv pb np : Nat} {P Q : Nat → vt} : ∀ {n : Nat}, ss_R I I1 J b0 nv pb np n P Q → n ≤ ss_W P n := by
  intro n
  induction n with
  | zero => intro _; exact Nat.zero_le _
  | succ n ih =>
    intro h
    have h1 := ih ⟨h.1, fun j hj => h.2 j (by omega)⟩
    obtain ⟨u, v, -, -, hm, -⟩ := h.2 n (by omega)
    have h2 := (vo_o.mp hm.2).2.2.2.2.2.2.2.2.2.1
    have h3 := vt_ws_mono (X := P n) (i := 0) (vt_c (P n))
    rw [Nat.zero_add] at h3
    have h4 : vt_ws (P n) 0 = 1 := rfl
    show n + 1 ≤ ss_W P n + vt_w (P n)
    omega
theorem ss_R.push {I I1 : mo_I} {J : mo_J} {b0 nv pb np n u v : Nat} {P Q : Nat → vt} {X Y : vt} (h : ss_R I I1 J b0 nv pb np n P Q) (hx : mw I J b0 nv pb np u X) (hy : mw I J b0 nv pb np v Y) : ss_R I (va_up (va_up I1 58 (upd (I1 58) n (nI u))) 59 (upd ((va_up I1 58 (upd (I1 58) n (nI u))) 59) n (nI v))) J b0 nv pb np (n + 1) (ss_p P n X) (ss_p Q n Y) := by
  refine ⟨fun k h1 h2 => by rw [va_up_n h2, va_up_n h1]; exact h.1 k h1 h2, fun j hj => ?_⟩
  by_cases hjn : j = n
  · subst hjn
    refine ⟨u, v, ?_, ?_, ?_, ?_⟩
    · rw [va_up_n (by decide), va_up_s]; simp [upd]
    · rw [va_up_s]; simp [upd]
    · unfold ss_p; rw [if_pos rfl]; exact hx
    · unfold ss_p; rw [if_pos rfl]; exact hy
  · obtain ⟨u1, v1, h1, h2, h3, h4⟩ := h.2 j (by omega)
    refine ⟨u1, v1, ?_, ?_, ?_, ?_⟩
    · rw [va_up_n (by decide), va_up_s]; simp only [upd]; rw [if_neg hjn]; exact h1
    · rw [va_up_s]; simp only [upd]; rw [if_neg hjn, va_up_n (by decide)]; exact h2
    · unfold ss_p; rw [if_neg hjn]; exact h3
    · unfold ss_p; rw [if_neg hjn]; exact h4
theorem ln_sm {X Y : vt} (hx : vo 8 X) (hy : vo 8 Y) (hk : vt_k X = vt_k Y) (hc : vt_c X = vt_c Y) (ho : vt_ord (vt_l X) (vt_l Y) = 0) : vt_ln X = vt_ln Y := by
  unfold vt_ln
  rw [← hk, hc, vt_cmp_len (vo_o.mp hx).2.2.2.1.1 (vo_o.mp hy).2.2.2.1.1 _ _ ho]
theorem d_Mo_same_0 : decode b_Mo_same 0 = .ok (.iconst 1, 1) := by decide +kernel
theorem d_Mo_same_1 : decode b_Mo_same 1 = .ok (.istore_n 3, 1) := by decide +kernel
theorem d_Mo_same_2 : decode b_Mo_same 2 = .ok (.aload_n 0, 1) := by decide +kernel
theorem d_Mo_same_3 : decode b_Mo_same 3 = .ok (.getfield 130, 3) := by decide +kernel
theorem d_Mo_same_6 : decode b_Mo_same 6 = .ok (.iconst 0, 1) := by decide +kernel
theorem d_Mo_same_7 : decode b_Mo_same 7 = .ok (.iload_n 1, 1) := by decide +kernel
theorem d_Mo_same_8 : decode b_Mo_same 8 = .ok (.iastore, 1) := by decide +kernel
theorem d_Mo_same_9 : decode b_Mo_same 9 = .ok (.aload_n 0, 1) := by decide +kernel
theorem d_Mo_same_10 : decode b_Mo_same 10 = .ok (.getfield 133, 3) := by decide +kernel
theorem d_Mo_same_13 : decode b_Mo_same 13 = .ok (.iconst 0, 1) := by decide +kernel
theorem d_Mo_same_14 : decode b_Mo_same 14 = .ok (.iload_n 2, 1) := by decide +kernel
theorem d_Mo_same_15 : decode b_Mo_same 15 = .ok (.iastore, 1) := by decide +kernel
theorem d_Mo_same_16 : decode b_Mo_same 16 = .ok (.iload_n 3, 1) := by decide +kernel
theorem d_Mo_same_17 : decode b_Mo_same 17 = .ok (.ifCond .le 215, 3) := by decide +kernel
theorem d_Mo_same_20 : decode b_Mo_same 20 = .ok (.iinc 3 (-1), 3) := by decide +kernel
theorem d_Mo_same_23 : decode b_Mo_same 23 = .ok (.aload_n 0, 1) := by decide +kernel
theorem d_Mo_same_24 : decode b_Mo_same 24 = .ok (.getfield 130, 3) := by decide +kernel
theorem d_Mo_same_27 : decode b_Mo_same 27 = .ok (.iload_n 3, 1) := by decide +kernel
theorem d_Mo_same_28 : decode b_Mo_same 28 = .ok (.iaload, 1) := by decide +kernel
theorem d_Mo_same_29 : decode b_Mo_same 29 = .ok (.istore 4, 2) := by decide +kernel
theorem d_Mo_same_31 : decode b_Mo_same 31 = .ok (.aload_n 0, 1) := by decide +kernel
theorem d_Mo_same_32 : decode b_Mo_same 32 = .ok (.getfield 133, 3) := by decide +kernel
theorem d_Mo_same_35 : decode b_Mo_same 35 = .ok (.iload_n 3, 1) := by decide +kernel
theorem d_Mo_same_36 : decode b_Mo_same 36 = .ok (.iaload, 1) := by decide +kernel
theorem d_Mo_same_37 : decode b_Mo_same 37 = .ok (.istore 5, 2) := by decide +kernel
theorem d_Mo_same_39 : decode b_Mo_same 39 = .ok (.aload_n 0, 1) := by decide +kernel
theorem d_Mo_same_40 : decode b_Mo_same 40 = .ok (.getfield 7, 3) := by decide +kernel
theorem d_Mo_same_43 : decode b_Mo_same 43 = .ok (.iload 4, 2) := by decide +kernel
theorem d_Mo_same_45 : decode b_Mo_same 45 = .ok (.iaload, 1) := by decide +kernel
theorem d_Mo_same_46 : decode b_Mo_same 46 = .ok (.aload_n 0, 1) := by decide +kernel
theorem d_Mo_same_47 : decode b_Mo_same 47 = .ok (.getfield 7, 3) := by decide +kernel
theorem d_Mo_same_50 : decode b_Mo_same 50 = .ok (.iload 5, 2) := by decide +kernel
theorem d_Mo_same_52 : decode b_Mo_same 52 = .ok (.iaload, 1) := by decide +kernel
theorem d_Mo_same_53 : decode b_Mo_same 53 = .ok (.if_icmp .ne 20, 3) := by decide +kernel
theorem d_Mo_same_56 : decode b_Mo_same 56 = .ok (.aload_n 0, 1) := by decide +kernel
theorem d_Mo_same_57 : decode b_Mo_same 57 = .ok (.getfield 17, 3) := by decide +kernel
theorem d_Mo_same_60 : decode b_Mo_same 60 = .ok (.iload 4, 2) := by decide +kernel
theorem d_Mo_same_62 : decode b_Mo_same 62 = .ok (.iaload, 1) := by decide +kernel
theorem d_Mo_same_63 : decode b_Mo_same 63 = .ok (.aload_n 0, 1) := by decide +kernel
theorem d_Mo_same_64 : decode b_Mo_same 64 = .ok (.getfield 17, 3) := by decide +kernel
theorem d_Mo_same_67 : decode b_Mo_same 67 = .ok (.iload 5, 2) := by decide +kernel
theorem d_Mo_same_69 : decode b_Mo_same 69 = .ok (.iaload, 1) := by decide +kernel
theorem d_Mo_same_70 : decode b_Mo_same 70 = .ok (.if_icmp .eq 5, 3) := by decide +kernel
theorem d_Mo_same_73 : decode b_Mo_same 73 = .ok (.iconst 0, 1) := by decide +kernel
theorem d_Mo_same_74 : decode b_Mo_same 74 = .ok (.ireturn, 1) := by decide +kernel
theorem d_Mo_same_75 : decode b_Mo_same 75 = .ok (.aload_n 0, 1) := by decide +kernel
theorem d_Mo_same_76 : decode b_Mo_same 76 = .ok (.getfield 7, 3) := by decide +kernel
theorem d_Mo_same_79 : decode b_Mo_same 79 = .ok (.iload 4, 2) := by decide +kernel
theorem d_Mo_same_81 : decode b_Mo_same 81 = .ok (.iaload, 1) := by decide +kernel
theorem d_Mo_same_82 : decode b_Mo_same 82 = .ok (.iconst 3, 1) := by decide +kernel
theorem d_Mo_same_83 : decode b_Mo_same 83 = .ok (.if_icmp .ne 21, 3) := by decide +kernel
theorem d_Mo_same_86 : decode b_Mo_same 86 = .ok (.aload_n 0, 1) := by decide +kernel
theorem d_Mo_same_87 : decode b_Mo_same 87 = .ok (.getfield 13, 3) := by decide +kernel
theorem d_Mo_same_90 : decode b_Mo_same 90 = .ok (.iload 4, 2) := by decide +kernel
theorem d_Mo_same_92 : decode b_Mo_same 92 = .ok (.laload, 1) := by decide +kernel
theorem d_Mo_same_93 : decode b_Mo_same 93 = .ok (.aload_n 0, 1) := by decide +kernel
theorem d_Mo_same_94 : decode b_Mo_same 94 = .ok (.getfield 13, 3) := by decide +kernel
theorem d_Mo_same_97 : decode b_Mo_same 97 = .ok (.iload 5, 2) := by decide +kernel
theorem d_Mo_same_99 : decode b_Mo_same 99 = .ok (.laload, 1) := by decide +kernel
theorem d_Mo_same_100 : decode b_Mo_same 100 = .ok (.lcmp, 1) := by decide +kernel
theorem d_Mo_same_101 : decode b_Mo_same 101 = .ok (.ifCond .ne 25, 3) := by decide +kernel
theorem d_Mo_same_104 : decode b_Mo_same 104 = .ok (.aload_n 0, 1) := by decide +kernel
theorem d_Mo_same_105 : decode b_Mo_same 105 = .ok (.getfield 7, 3) := by decide +kernel
theorem d_Mo_same_108 : decode b_Mo_same 108 = .ok (.iload 4, 2) := by decide +kernel
theorem d_Mo_same_110 : decode b_Mo_same 110 = .ok (.iaload, 1) := by decide +kernel
theorem d_Mo_same_111 : decode b_Mo_same 111 = .ok (.iconst 4, 1) := by decide +kernel
theorem d_Mo_same_112 : decode b_Mo_same 112 = .ok (.if_icmp .ne 16, 3) := by decide +kernel
theorem d_Mo_same_115 : decode b_Mo_same 115 = .ok (.aload_n 0, 1) := by decide +kernel
theorem d_Mo_same_116 : decode b_Mo_same 116 = .ok (.iload 4, 2) := by decide +kernel
theorem d_Mo_same_118 : decode b_Mo_same 118 = .ok (.iload 5, 2) := by decide +kernel
theorem d_Mo_same_120 : decode b_Mo_same 120 = .ok (.invokevirtual 153, 3) := by decide +kernel
theorem d_Mo_same_123 : decode b_Mo_same 123 = .ok (.ifCond .eq 5, 3) := by decide +kernel
theorem d_Mo_same_126 : decode b_Mo_same 126 = .ok (.iconst 0, 1) := by decide +kernel
theorem d_Mo_same_127 : decode b_Mo_same 127 = .ok (.ireturn, 1) := by decide +kernel
theorem d_Mo_same_128 : decode b_Mo_same 128 = .ok (.iconst 0, 1) := by decide +kernel
theorem d_Mo_same_129 : decode b_Mo_same 129 = .ok (.istore 6, 2) := by decide +kernel
theorem d_Mo_same_131 : decode b_Mo_same 131 = .ok (.aload_n 0, 1) := by decide +kernel
theorem d_Mo_same_132 : decode b_Mo_same 132 = .ok (.iload 4, 2) := by decide +kernel
theorem d_Mo_same_134 : decode b_Mo_same 134 = .ok (.invokevirtual 169, 3) := by decide +kernel
theorem d_Mo_same_137 : decode b_Mo_same 137 = .ok (.ifCond .eq 92, 3) := by decide +kernel
theorem d_Mo_same_140 : decode b_Mo_same 140 = .ok (.iload 6, 2) := by decide +kernel
theorem d_Mo_same_142 : decode b_Mo_same 142 = .ok (.aload_n 0, 1) := by decide +kernel
theorem d_Mo_same_143 : decode b_Mo_same 143 = .ok (.getfield 17, 3) := by decide +kernel
theorem d_Mo_same_146 : decode b_Mo_same 146 = .ok (.iload 4, 2) := by decide +kernel
theorem d_Mo_same_148 : decode b_Mo_same 148 = .ok (.iaload, 1) := by decide +kernel
theorem d_Mo_same_149 : decode b_Mo_same 149 = .ok (.if_icmp .ge 80, 3) := by decide +kernel
theorem d_Mo_same_152 : decode b_Mo_same 152 = .ok (.aload_n 0, 1) := by decide +kernel
theorem d_Mo_same_153 : decode b_Mo_same 153 = .ok (.getfield 7, 3) := by decide +kernel
theorem d_Mo_same_156 : decode b_Mo_same 156 = .ok (.iload 4, 2) := by decide +kernel
theorem d_Mo_same_158 : decode b_Mo_same 158 = .ok (.iaload, 1) := by decide +kernel
theorem d_Mo_same_159 : decode b_Mo_same 159 = .ok (.bipush 6, 2) := by decide +kernel
theorem d_Mo_same_161 : decode b_Mo_same 161 = .ok (.if_icmp .ne 20, 3) := by decide +kernel
theorem d_Mo_same_164 : decode b_Mo_same 164 = .ok (.aload_n 0, 1) := by decide +kernel
theorem d_Mo_same_165 : decode b_Mo_same 165 = .ok (.iload 5, 2) := by decide +kernel
theorem d_Mo_same_167 : decode b_Mo_same 167 = .ok (.aload_n 0, 1) := by decide +kernel
theorem d_Mo_same_168 : decode b_Mo_same 168 = .ok (.iload 4, 2) := by decide +kernel
theorem d_Mo_same_170 : decode b_Mo_same 170 = .ok (.iload 6, 2) := by decide +kernel
theorem d_Mo_same_172 : decode b_Mo_same 172 = .ok (.invokevirtual 150, 3) := by decide +kernel
theorem d_Mo_same_175 : decode b_Mo_same 175 = .ok (.invokevirtual 173, 3) := by decide +kernel
theorem d_Mo_same_178 : decode b_Mo_same 178 = .ok (.goto 5, 3) := by decide +kernel
theorem d_Mo_same_181 : decode b_Mo_same 181 = .ok (.iload 6, 2) := by decide +kernel
theorem d_Mo_same_183 : decode b_Mo_same 183 = .ok (.istore 7, 2) := by decide +kernel
theorem d_Mo_same_185 : decode b_Mo_same 185 = .ok (.iload 7, 2) := by decide +kernel
theorem d_Mo_same_187 : decode b_Mo_same 187 = .ok (.ifCond .ge 5, 3) := by decide +kernel
theorem d_Mo_same_190 : decode b_Mo_same 190 = .ok (.iconst 0, 1) := by decide +kernel
theorem d_Mo_same_191 : decode b_Mo_same 191 = .ok (.ireturn, 1) := by decide +kernel
theorem d_Mo_same_192 : decode b_Mo_same 192 = .ok (.aload_n 0, 1) := by decide +kernel
theorem d_Mo_same_193 : decode b_Mo_same 193 = .ok (.getfield 130, 3) := by decide +kernel
theorem d_Mo_same_196 : decode b_Mo_same 196 = .ok (.iload_n 3, 1) := by decide +kernel
theorem d_Mo_same_197 : decode b_Mo_same 197 = .ok (.aload_n 0, 1) := by decide +kernel
theorem d_Mo_same_198 : decode b_Mo_same 198 = .ok (.iload 4, 2) := by decide +kernel
theorem d_Mo_same_200 : decode b_Mo_same 200 = .ok (.iload 6, 2) := by decide +kernel
theorem d_Mo_same_202 : decode b_Mo_same 202 = .ok (.invokevirtual 176, 3) := by decide +kernel
theorem d_Mo_same_205 : decode b_Mo_same 205 = .ok (.iastore, 1) := by decide +kernel
theorem d_Mo_same_206 : decode b_Mo_same 206 = .ok (.aload_n 0, 1) := by decide +kernel
theorem d_Mo_same_207 : decode b_Mo_same 207 = .ok (.getfield 133, 3) := by decide +kernel
theorem d_Mo_same_210 : decode b_Mo_same 210 = .ok (.iload_n 3, 1) := by decide +kernel
theorem d_Mo_same_211 : decode b_Mo_same 211 = .ok (.aload_n 0, 1) := by decide +kernel
theorem d_Mo_same_212 : decode b_Mo_same 212 = .ok (.iload 5, 2) := by decide +kernel
theorem d_Mo_same_214 : decode b_Mo_same 214 = .ok (.iload 7, 2) := by decide +kernel
theorem d_Mo_same_216 : decode b_Mo_same 216 = .ok (.invokevirtual 176, 3) := by decide +kernel
theorem d_Mo_same_219 : decode b_Mo_same 219 = .ok (.iastore, 1) := by decide +kernel
theorem d_Mo_same_220 : decode b_Mo_same 220 = .ok (.iinc 3 1, 3) := by decide +kernel
theorem d_Mo_same_223 : decode b_Mo_same 223 = .ok (.iinc 6 1, 3) := by decide +kernel
theorem d_Mo_same_226 : decode b_Mo_same 226 = .ok (.goto (-95), 3) := by decide +kernel
theorem d_Mo_same_229 : decode b_Mo_same 229 = .ok (.goto (-213), 3) := by decide +kernel
theorem d_Mo_same_232 : decode b_Mo_same 232 = .ok (.iconst 1, 1) := by decide +kernel
theorem d_Mo_same_233 : decode b_Mo_same 233 = .ok (.ireturn, 1) := by decide +kernel
set_option maxHeartbeats 4000000 in
set_option maxRecDepth 100000 in
theorem c_Mo_same (l : Launch) (E : gh_E) (sz : Nat) (f : gh_F) (a : Nat) (ad : Nat → Nat) (S : Nat → Int32) (I : Nat → Nat → Int32) (J : Nat → Nat → Int64) (b0 nv pb np x0 y0 : Nat) (X0 Y0 : vt) (hX : mo_R E f a ad S I J) (hx0 : mw I J b0 nv pb np x0 X0) (hy0 : mw I J b0 nv pb np y0 Y0) (hp8 : np ≤ 8800) : gh_M l y_Mo_same b_Mo_same 8 (some .boolean) E sz [.ref a, .int (nI x0), .int (nI y0)] f { frames := 6, cells := 0, slots := 0, locals := 180 } (fun r g => r = some (.int (gh_bi (vt_sm 8 X0 Y0))) ∧ ∃ I2, mo_X E f g a ad S I2 J ∧ ∀ k, k ≠ 58 → k ≠ 59 → I2 k = I k) := by
  have hw0 := (vo_o.mp hx0.2).2.2.2.2.2.2.2.1
  refine gh_open (by decide) (Nat.le_of_ble_eq_true rfl) ?_
  intro p e s m args below meth c A ls hAe C V hr hlocks hname hl
  have hx := C.1
  have hb := C.2.1
  have hl : lv_has ls 8 [(0, .ref a), (1, .int (nI x0)), (2, .int (nI y0))] := hl
  have X : mo_X E f f a ad S I J := ⟨hX, gh_fr.rf⟩
  refine lv_iconst (v := 1) hx hb d_Mo_same_0 (by decide) ?_
  refine lv_istore_n hx hb d_Mo_same_1 rfl hl (by decide) rfl (fun ls hl => ?_)
  have hl : lv_has ls 8 [(3, .int 1), (0, .ref a), (1, .int (nI x0)), (2, .int (nI y0))] := hl
  refine lv_aload_n hx hb d_Mo_same_2 rfl (lv_at hl 1 rfl) ?_
  refine mo_getA C V X 58 (by decide) (by decide) f_Mo_130 rfl d_Mo_same_3 ?_
  refine lv_iconst (v := 0) hx hb d_Mo_same_6 (by decide) ?_
  refine lv_iload_n hx hb d_Mo_same_7 rfl (lv_at hl 2 rfl) ?_
  refine mo_ist (k := 58) (i := 0) (n := 160) C V X (by decide) (by decide) rfl (by omega) (by decide) d_Mo_same_8 (fun f1 H locs V1 X1 => ?_)
  clear V X
  have V := V1
  have X := X1
  clear V1 X1
  refine lv_aload_n hx hb d_Mo_same_9 rfl (lv_at hl 1 rfl) ?_
  refine mo_getA C V X 59 (by decide) (by decide) f_Mo_133 rfl d_Mo_same_10 ?_
  refine lv_iconst (v := 0) hx hb d_Mo_same_13 (by decide) ?_
  refine lv_iload_n hx hb d_Mo_same_14 rfl (lv_at hl 3 rfl) ?_
  refine mo_ist (k := 59) (i := 0) (n := 160) C V X (by decide) (by decide) rfl (by omega) (by decide) d_Mo_same_15 (fun f1 H locs V1 X1 => ?_)
  clear V X
  have V := V1
  have X := X1
  clear V1 X1
  have hl : lv_has ls 8 [(3, .int 1), (0, .ref a)] := lv_sub hl [0, 1] rfl
  have hl : lv_has ls 8 [(3, .int (nI 1)), (0, .ref a)] := hl
  have loop : ∀ (w9 n9 : Nat) (PX PY : Nat → vt) (I1 : mo_I) (f1 : gh_F) (H : Heap) (locs : List Loc) (ls : Array Slot), ss_W PX n9 ≤ w9 → ss_W PX n9 ≤ 100 → ss_R I I1 J b0 nv pb np n9 PX PY → ss_A PX PY n9 = vt_sm 8 X0 Y0 → mo_X E f f1 a ad S I1 J → gh_V E A f1 s H locs → lv_has ls 8 [(3, .int (nI n9)), (0, .ref a)] → W p l e { frames := 6, cells := 0, slots := 0, locals := 180 } s m args below meth c H locs 0 0 (MQ below (gh_Q E f (fun r g => r = some (.int (gh_bi (vt_sm 8 X0 Y0))) ∧ ∃ I2, mo_X E f g a ad S I2 J ∧ ∀ k, k ≠ 58 → k ≠ 59 → I2 k = I k)) args s 0 0 A) (F0 m 16 ls []) := by
    intro w9
    induction w9 with
    | zero =>
      intro n9 PX PY I1 f1 H locs ls hw h100 hss hA X V hl
      have hn9 : n9 = 0 := by have := hss.ge; omega
      subst hn9
      refine lv_iload_n hx hb d_Mo_same_16 rfl (lv_at hl 0 rfl) ?_
      refine lv_if_le (tgt := 232) hx hb d_Mo_same_17 (by decide) (fun c1 => ?_) (fun c1 => absurd (by decide) c1)
      refine lv_iconst (v := 1) hx hb d_Mo_same_232 (by decide) ?_
      refine gh_retz hAe C V hr (by first | rfl | decide) hlocks d_Mo_same_233 (by first | decide | omega | (dsimp only; omega)) (by first | decide | omega | (dsimp only; omega)) ?_
      exact ⟨by rw [← hA]; rfl, I1, X, hss.1⟩
    | succ w9 ih =>
      intro n9
      cases n9 with
      | zero =>
        intro PX PY I1 f1 H locs ls hw h100 hss hA X V hl
        refine lv_iload_n hx hb d_Mo_same_16 rfl (lv_at hl 0 rfl) ?_
        refine lv_if_le (tgt := 232) hx hb d_Mo_same_17 (by decide) (fun c2 => ?_) (fun c2 => absurd (by decide) c2)
        refine lv_iconst (v := 1) hx hb d_Mo_same_232 (by decide) ?_
        refine gh_retz hAe C V hr (by first | rfl | decide) hlocks d_Mo_same_233 (by first | decide | omega | (dsimp only; omega)) (by first | decide | omega | (dsimp only; omega)) ?_
        exact ⟨by rw [← hA]; rfl, I1, X, hss.1⟩
      | succ n9 =>
        intro PX PY I1 f1 H locs ls hw h100 hss hA X V hl
        obtain ⟨x, y, hA9, hB9, hmx, hmy⟩ := hss.2 n9 (by omega)
        have hge := hss.ge
        obtain ⟨OX, hOXe⟩ : ∃ q, q = PX n9 := ⟨_, rfl⟩
        obtain ⟨OY, hOYe⟩ : ∃ q, q = PY n9 := ⟨_, rfl⟩
        rw [← hOXe] at hmx
        rw [← hOYe] at hmy
        have hW1 : ss_W PX (n9 + 1) = ss_W PX n9 + vt_w OX := by rw [hOXe]; rfl
        have hA : (ss_A PX PY n9 && vt_sm 8 OX OY) = vt_sm 8 X0 Y0 := by rw [hOXe, hOYe]; exact hA
        have hOx := hmx.keep hss.ma (Nat.le_refl _) (Nat.le_refl _) hp8
        have hOy := hmy.keep hss.ma (Nat.le_refl _) (Nat.le_refl _) hp8
        obtain ⟨hax, h1x, h2x, h3x, h4x, h5x, h6x, h7x⟩ := mv_o.mp hOx.1
        have hx7 := hax.2
        have hoX := vo_o.mp hOx.2
        have hkx6 := hoX.1
        have hcx16 := hoX.2.2.2.2.2.2.1
        obtain ⟨hay, h1y, h2y, h3y, h4y, h5y, h6y, h7y⟩ := mv_o.mp hOy.1
        have hy7 := hay.2
        have hoY := vo_o.mp hOy.2
        have hky6 := hoY.1
        have hcy16 := hoY.2.2.2.2.2.2.1
        have hlx24 := hoX.2.2.2.1.1
        have hly24 := hoY.2.2.2.1.1
        have hlnx : vt_ln OX ≤ 24 := by unfold vt_ln; split <;> omega
        have hlny : vt_ln OY ≤ 24 := by unfold vt_ln; split <;> omega
        refine lv_iload_n hx hb d_Mo_same_16 rfl (lv_at hl 0 rfl) ?_
        refine lv_if_le (tgt := 232) hx hb d_Mo_same_17 (by decide) (fun c3 => absurd c3 (nI_npos (by omega))) (fun c3 => ?_)
        refine lv_iinc (k := 0) (v := (nI (n9 + 1)) + (-1)) hx hb d_Mo_same_20 hl rfl (by rfl) (by decide) rfl (fun ls hl => ?_)
        have hl : lv_has ls 8 [(3, .int (nI ((n9 + 1) - 1))), (0, .ref a)] := by rw [nI_dec (by omega)]; exact hl
        have hl : lv_has ls 8 [(3, .int (nI n9)), (0, .ref a)] := hl
        refine lv_aload_n hx hb d_Mo_same_23 rfl (lv_at hl 1 rfl) ?_
        refine mo_getA C V X 58 (by decide) (by decide) f_Mo_130 rfl d_Mo_same_24 ?_
        refine lv_iload_n hx hb d_Mo_same_27 rfl (lv_at hl 0 rfl) ?_
        refine mo_ild (k := 58) (i := n9) (n := 160) C V X (by decide) (by decide) rfl (by omega) (by decide) d_Mo_same_28 ?_
        rw [show I1 58 n9 = nI x from hA9]
        refine lv_istore hx hb d_Mo_same_29 hl (by decide) rfl (fun ls hl => ?_)
        have hl : lv_has ls 8 [(4, .int (nI x)), (3, .int (nI n9)), (0, .ref a)] := hl
        refine lv_aload_n hx hb d_Mo_same_31 rfl (lv_at hl 2 rfl) ?_
        refine mo_getA C V X 59 (by decide) (by decide) f_Mo_133 rfl d_Mo_same_32 ?_
        refine lv_iload_n hx hb d_Mo_same_35 rfl (lv_at hl 1 rfl) ?_
        refine mo_ild (k := 59) (i := n9) (n := 160) C V X (by decide) (by decide) rfl (by omega) (by decide) d_Mo_same_36 ?_
        rw [show I1 59 n9 = nI y from hB9]
        refine lv_istore hx hb d_Mo_same_37 hl (by decide) rfl (fun ls hl => ?_)
        have hl : lv_has ls 8 [(5, .int (nI y)), (4, .int (nI x)), (3, .int (nI n9)), (0, .ref a)] := hl
        refine lv_aload_n hx hb d_Mo_same_39 rfl (lv_at hl 3 rfl) ?_
        refine mo_getA C V X 1 (by decide) (by decide) f_Mo_7 rfl d_Mo_same_40 ?_
        refine lv_iload hx hb d_Mo_same_43 (lv_at hl 1 rfl) ?_
        refine mo_ild (k := 1) (i := x) (n := 760) C V X (by decide) (by decide) rfl (by omega) (by decide) d_Mo_same_45 ?_
        rw [show I1 1 x = nI (vt_k OX) from h1x]
        refine lv_aload_n hx hb d_Mo_same_46 rfl (lv_at hl 3 rfl) ?_
        refine mo_getA C V X 1 (by decide) (by decide) f_Mo_7 rfl d_Mo_same_47 ?_
        refine lv_iload hx hb d_Mo_same_50 (lv_at hl 0 rfl) ?_
        refine mo_ild (k := 1) (i := y) (n := 760) C V X (by decide) (by decide) rfl (by omega) (by decide) d_Mo_same_52 ?_
        rw [show I1 1 y = nI (vt_k OY) from h1y]
        refine lv_icmp_ne (tgt := 73) hx hb d_Mo_same_53 (by decide) (fun c4 => ?_) (fun c4 => ?_)
        · have c4 : ¬ (vt_k OX) = (vt_k OY) := by rw [← gq_eq (a := vt_k OX) (b := vt_k OY) (by omega) (by omega)]; exact c4
          refine lv_iconst (v := 0) hx hb d_Mo_same_73 (by decide) ?_
          refine gh_retz hAe C V hr (by first | rfl | decide) hlocks d_Mo_same_74 (by first | decide | omega | (dsimp only; omega)) (by first | decide | omega | (dsimp only; omega)) ?_
          have hfa : vt_sm 8 OX OY = false := by rw [vt_sm8 hOx.2, if_neg (fun z => absurd z.1 c4)]
          have hFF : vt_sm 8 X0 Y0 = false := by rw [← hA, hfa, Bool.and_false]
          exact ⟨by rw [hFF]; rfl, I1, X, hss.1⟩
        · have c4 : (vt_k OX) = (vt_k OY) := by rw [← gq_eq (a := vt_k OX) (b := vt_k OY) (by omega) (by omega)]; exact c4
          refine lv_aload_n hx hb d_Mo_same_56 rfl (lv_at hl 3 rfl) ?_
          refine mo_getA C V X 3 (by decide) (by decide) f_Mo_17 rfl d_Mo_same_57 ?_
          refine lv_iload hx hb d_Mo_same_60 (lv_at hl 1 rfl) ?_
          refine mo_ild (k := 3) (i := x) (n := 760) C V X (by decide) (by decide) rfl (by omega) (by decide) d_Mo_same_62 ?_
          rw [show I1 3 x = nI (vt_ln OX) from h3x]
          refine lv_aload_n hx hb d_Mo_same_63 rfl (lv_at hl 3 rfl) ?_
          refine mo_getA C V X 3 (by decide) (by decide) f_Mo_17 rfl d_Mo_same_64 ?_
          refine lv_iload hx hb d_Mo_same_67 (lv_at hl 0 rfl) ?_
          refine mo_ild (k := 3) (i := y) (n := 760) C V X (by decide) (by decide) rfl (by omega) (by decide) d_Mo_same_69 ?_
          rw [show I1 3 y = nI (vt_ln OY) from h3y]
          refine lv_icmp_eq (tgt := 75) hx hb d_Mo_same_70 (by decide) (fun c5 => ?_) (fun c5 => ?_)
          · have c5 : (vt_ln OX) = (vt_ln OY) := by rw [← gq_eq (a := vt_ln OX) (b := vt_ln OY) (by omega) (by omega)]; exact c5
            have hkk : vt_k OX = vt_k OY := by omega
            have hll : vt_ln OX = vt_ln OY := by omega
            rcases (show vt_k OX = 0 ∨ vt_k OX = 1 ∨ vt_k OX = 2 ∨ vt_k OX = 3 ∨ vt_k OX = 4 ∨ vt_k OX = 5 ∨ vt_k OX = 6 by omega) with hk | hk | hk | hk | hk | hk | hk
            · rw [hk] at h1x
              have hlnx2 : vt_ln OX = vt_c OX := by unfold vt_ln; rw [if_neg (by omega)]
              have hlny2 : vt_ln OY = vt_c OY := by unfold vt_ln; rw [if_neg (by omega)]
              have hcc : vt_c OX = vt_c OY := by omega
              have hnn : vt_n OX = vt_n OY := by rw [hoX.2.1 (by omega), hoY.2.1 (by omega)]
              have hoo : vt_ord (vt_l OX) (vt_l OY) = 0 := by rw [hoX.2.2.1 (by omega), hoY.2.2.1 (by omega)]; rfl
              refine lv_aload_n hx hb d_Mo_same_75 rfl (lv_at hl 3 rfl) ?_
              refine mo_getA C V X 1 (by decide) (by decide) f_Mo_7 rfl d_Mo_same_76 ?_
              refine lv_iload hx hb d_Mo_same_79 (lv_at hl 1 rfl) ?_
              refine mo_ild (k := 1) (i := x) (n := 760) C V X (by decide) (by decide) rfl (by omega) (by decide) d_Mo_same_81 ?_
              rw [show I1 1 x = nI 0 from h1x]
              refine lv_iconst (v := 3) hx hb d_Mo_same_82 (by decide) ?_
              refine lv_icmp_ne (tgt := 104) hx hb d_Mo_same_83 (by decide) (fun c6 => ?_) (fun c6 => absurd c6 (by decide))
              refine lv_aload_n hx hb d_Mo_same_104 rfl (lv_at hl 3 rfl) ?_
              refine mo_getA C V X 1 (by decide) (by decide) f_Mo_7 rfl d_Mo_same_105 ?_
              refine lv_iload hx hb d_Mo_same_108 (lv_at hl 1 rfl) ?_
              refine mo_ild (k := 1) (i := x) (n := 760) C V X (by decide) (by decide) rfl (by omega) (by decide) d_Mo_same_110 ?_
              rw [show I1 1 x = nI 0 from h1x]
              refine lv_iconst (v := 4) hx hb d_Mo_same_111 (by decide) ?_
              refine lv_icmp_ne (tgt := 128) hx hb d_Mo_same_112 (by decide) (fun c7 => ?_) (fun c7 => absurd c7 (by decide))
              have hA : (ss_A PX PY n9 && vt_sml (vt_sm 8) OX OY (vt_c OX) 0) = vt_sm 8 X0 Y0 := by rw [← hA, vt_sm8 hOx.2, if_pos ⟨hkk, hcc, hnn, hoo⟩]
              have hc0 : vt_c OX = 0 := hoX.2.2.2.2.2.1 (by omega)
              rw [hc0] at hA
              have hA : ss_A PX PY n9 = vt_sm 8 X0 Y0 := by rw [← hA]; exact (Bool.and_true _).symm
              have hwp : 1 ≤ vt_w OX := by rw [hoX.2.2.2.2.2.2.2.2.2.1, hc0]; exact Nat.le_refl _
              refine lv_iconst (v := 0) hx hb d_Mo_same_128 (by decide) ?_
              refine lv_istore hx hb d_Mo_same_129 hl (by decide) rfl (fun ls hl => ?_)
              have hl : lv_has ls 8 [(6, .int 0), (5, .int (nI y)), (4, .int (nI x)), (3, .int (nI n9)), (0, .ref a)] := hl
              refine lv_aload_n hx hb d_Mo_same_131 rfl (lv_at hl 4 rfl) ?_
              refine lv_iload hx hb d_Mo_same_132 (lv_at hl 2 rfl) ?_
              refine gh_callV C V hl.1 m_Mo_isMany l_Mo_169 (c_Mo_isMany l E _ _ a ad _ _ _ x X.1 hx7) rfl X.1.1 gc_Mo ⟨by first | decide | omega | (dsimp only; omega), by first | decide | omega | (dsimp only; omega)⟩ ⟨by first | decide | omega | (dsimp only; omega), by first | decide | omega | (dsimp only; omega)⟩ (Nat.le_of_ble_eq_true rfl) rfl d_Mo_same_134 (fun r z9 H locs hp V1 => ?_)
              rw [h1x] at hp
              obtain ⟨rfl, he9⟩ := hp
              rw [he9] at V1
              have V := V1
              refine W.eq (g2 := F0 m 137 ls [.int (gh_bi false)]) rfl ?_
              refine lv_if_eq (tgt := 229) hx hb d_Mo_same_137 (by decide) (fun c8 => ?_) (fun c8 => absurd (by decide) c8)
              refine lv_goto (tgt := 16) hx hb d_Mo_same_229 (by decide) ?_
              have hl : lv_has ls 8 [(3, .int (nI n9)), (0, .ref a)] := lv_sub hl [3, 4] rfl
              exact ih n9 PX PY I1 _ H locs ls (by omega) (by omega) ⟨hss.1, fun j hj => hss.2 j (by omega)⟩ hA X V hl
            · rw [hk] at h1x
              have hlnx2 : vt_ln OX = vt_c OX := by unfold vt_ln; rw [if_neg (by omega)]
              have hlny2 : vt_ln OY = vt_c OY := by unfold vt_ln; rw [if_neg (by omega)]
              have hcc : vt_c OX = vt_c OY := by omega
              have hnn : vt_n OX = vt_n OY := by rw [hoX.2.1 (by omega), hoY.2.1 (by omega)]
              have hoo : vt_ord (vt_l OX) (vt_l OY) = 0 := by rw [hoX.2.2.1 (by omega), hoY.2.2.1 (by omega)]; rfl
              refine lv_aload_n hx hb d_Mo_same_75 rfl (lv_at hl 3 rfl) ?_
              refine mo_getA C V X 1 (by decide) (by decide) f_Mo_7 rfl d_Mo_same_76 ?_
              refine lv_iload hx hb d_Mo_same_79 (lv_at hl 1 rfl) ?_
              refine mo_ild (k := 1) (i := x) (n := 760) C V X (by decide) (by decide) rfl (by omega) (by decide) d_Mo_same_81 ?_
              rw [show I1 1 x = nI 1 from h1x]
              refine lv_iconst (v := 3) hx hb d_Mo_same_82 (by decide) ?_
              refine lv_icmp_ne (tgt := 104) hx hb d_Mo_same_83 (by decide) (fun c9 => ?_) (fun c9 => absurd c9 (by decide))
              refine lv_aload_n hx hb d_Mo_same_104 rfl (lv_at hl 3 rfl) ?_
              refine mo_getA C V X 1 (by decide) (by decide) f_Mo_7 rfl d_Mo_same_105 ?_
              refine lv_iload hx hb d_Mo_same_108 (lv_at hl 1 rfl) ?_
              refine mo_ild (k := 1) (i := x) (n := 760) C V X (by decide) (by decide) rfl (by omega) (by decide) d_Mo_same_110 ?_
              rw [show I1 1 x = nI 1 from h1x]
              refine lv_iconst (v := 4) hx hb d_Mo_same_111 (by decide) ?_
              refine lv_icmp_ne (tgt := 128) hx hb d_Mo_same_112 (by decide) (fun c10 => ?_) (fun c10 => absurd c10 (by decide))
              have hA : (ss_A PX PY n9 && vt_sml (vt_sm 8) OX OY (vt_c OX) 0) = vt_sm 8 X0 Y0 := by rw [← hA, vt_sm8 hOx.2, if_pos ⟨hkk, hcc, hnn, hoo⟩]
              have hc0 : vt_c OX = 0 := hoX.2.2.2.2.2.1 (by omega)
              rw [hc0] at hA
              have hA : ss_A PX PY n9 = vt_sm 8 X0 Y0 := by rw [← hA]; exact (Bool.and_true _).symm
              have hwp : 1 ≤ vt_w OX := by rw [hoX.2.2.2.2.2.2.2.2.2.1, hc0]; exact Nat.le_refl _
              refine lv_iconst (v := 0) hx hb d_Mo_same_128 (by decide) ?_
              refine lv_istore hx hb d_Mo_same_129 hl (by decide) rfl (fun ls hl => ?_)
              have hl : lv_has ls 8 [(6, .int 0), (5, .int (nI y)), (4, .int (nI x)), (3, .int (nI n9)), (0, .ref a)] := hl
              refine lv_aload_n hx hb d_Mo_same_131 rfl (lv_at hl 4 rfl) ?_
              refine lv_iload hx hb d_Mo_same_132 (lv_at hl 2 rfl) ?_
              refine gh_callV C V hl.1 m_Mo_isMany l_Mo_169 (c_Mo_isMany l E _ _ a ad _ _ _ x X.1 hx7) rfl X.1.1 gc_Mo ⟨by first | decide | omega | (dsimp only; omega), by first | decide | omega | (dsimp only; omega)⟩ ⟨by first | decide | omega | (dsimp only; omega), by first | decide | omega | (dsimp only; omega)⟩ (Nat.le_of_ble_eq_true rfl) rfl d_Mo_same_134 (fun r z9 H locs hp V1 => ?_)
              rw [h1x] at hp
              obtain ⟨rfl, he9⟩ := hp
              rw [he9] at V1
              have V := V1
              refine W.eq (g2 := F0 m 137 ls [.int (gh_bi false)]) rfl ?_
              refine lv_if_eq (tgt := 229) hx hb d_Mo_same_137 (by decide) (fun c11 => ?_) (fun c11 => absurd (by decide) c11)
              refine lv_goto (tgt := 16) hx hb d_Mo_same_229 (by decide) ?_
              have hl : lv_has ls 8 [(3, .int (nI n9)), (0, .ref a)] := lv_sub hl [3, 4] rfl
              exact ih n9 PX PY I1 _ H locs ls (by omega) (by omega) ⟨hss.1, fun j hj => hss.2 j (by omega)⟩ hA X V hl
            · rw [hk] at h1x
              have hlnx2 : vt_ln OX = vt_c OX := by unfold vt_ln; rw [if_neg (by omega)]
              have hlny2 : vt_ln OY = vt_c OY := by unfold vt_ln; rw [if_neg (by omega)]
              have hcc : vt_c OX = vt_c OY := by omega
              have hnn : vt_n OX = vt_n OY := by rw [hoX.2.1 (by omega), hoY.2.1 (by omega)]
              have hoo : vt_ord (vt_l OX) (vt_l OY) = 0 := by rw [hoX.2.2.1 (by omega), hoY.2.2.1 (by omega)]; rfl
              refine lv_aload_n hx hb d_Mo_same_75 rfl (lv_at hl 3 rfl) ?_
              refine mo_getA C V X 1 (by decide) (by decide) f_Mo_7 rfl d_Mo_same_76 ?_
              refine lv_iload hx hb d_Mo_same_79 (lv_at hl 1 rfl) ?_
              refine mo_ild (k := 1) (i := x) (n := 760) C V X (by decide) (by decide) rfl (by omega) (by decide) d_Mo_same_81 ?_
              rw [show I1 1 x = nI 2 from h1x]
              refine lv_iconst (v := 3) hx hb d_Mo_same_82 (by decide) ?_
              refine lv_icmp_ne (tgt := 104) hx hb d_Mo_same_83 (by decide) (fun c12 => ?_) (fun c12 => absurd c12 (by decide))
              refine lv_aload_n hx hb d_Mo_same_104 rfl (lv_at hl 3 rfl) ?_
              refine mo_getA C V X 1 (by decide) (by decide) f_Mo_7 rfl d_Mo_same_105 ?_
              refine lv_iload hx hb d_Mo_same_108 (lv_at hl 1 rfl) ?_
              refine mo_ild (k := 1) (i := x) (n := 760) C V X (by decide) (by decide) rfl (by omega) (by decide) d_Mo_same_110 ?_
              rw [show I1 1 x = nI 2 from h1x]
              refine lv_iconst (v := 4) hx hb d_Mo_same_111 (by decide) ?_
              refine lv_icmp_ne (tgt := 128) hx hb d_Mo_same_112 (by decide) (fun c13 => ?_) (fun c13 => absurd c13 (by decide))
              have hA : (ss_A PX PY n9 && vt_sml (vt_sm 8) OX OY (vt_c OX) 0) = vt_sm 8 X0 Y0 := by rw [← hA, vt_sm8 hOx.2, if_pos ⟨hkk, hcc, hnn, hoo⟩]
              have hc0 : vt_c OX = 0 := hoX.2.2.2.2.2.1 (by omega)
              rw [hc0] at hA
              have hA : ss_A PX PY n9 = vt_sm 8 X0 Y0 := by rw [← hA]; exact (Bool.and_true _).symm
              have hwp : 1 ≤ vt_w OX := by rw [hoX.2.2.2.2.2.2.2.2.2.1, hc0]; exact Nat.le_refl _
              refine lv_iconst (v := 0) hx hb d_Mo_same_128 (by decide) ?_
              refine lv_istore hx hb d_Mo_same_129 hl (by decide) rfl (fun ls hl => ?_)
              have hl : lv_has ls 8 [(6, .int 0), (5, .int (nI y)), (4, .int (nI x)), (3, .int (nI n9)), (0, .ref a)] := hl
              refine lv_aload_n hx hb d_Mo_same_131 rfl (lv_at hl 4 rfl) ?_
              refine lv_iload hx hb d_Mo_same_132 (lv_at hl 2 rfl) ?_
              refine gh_callV C V hl.1 m_Mo_isMany l_Mo_169 (c_Mo_isMany l E _ _ a ad _ _ _ x X.1 hx7) rfl X.1.1 gc_Mo ⟨by first | decide | omega | (dsimp only; omega), by first | decide | omega | (dsimp only; omega)⟩ ⟨by first | decide | omega | (dsimp only; omega), by first | decide | omega | (dsimp only; omega)⟩ (Nat.le_of_ble_eq_true rfl) rfl d_Mo_same_134 (fun r z9 H locs hp V1 => ?_)
              rw [h1x] at hp
              obtain ⟨rfl, he9⟩ := hp
              rw [he9] at V1
              have V := V1
              refine W.eq (g2 := F0 m 137 ls [.int (gh_bi false)]) rfl ?_
              refine lv_if_eq (tgt := 229) hx hb d_Mo_same_137 (by decide) (fun c14 => ?_) (fun c14 => absurd (by decide) c14)
              refine lv_goto (tgt := 16) hx hb d_Mo_same_229 (by decide) ?_
              have hl : lv_has ls 8 [(3, .int (nI n9)), (0, .ref a)] := lv_sub hl [3, 4] rfl
              exact ih n9 PX PY I1 _ H locs ls (by omega) (by omega) ⟨hss.1, fun j hj => hss.2 j (by omega)⟩ hA X V hl
            · rw [hk] at h1x
              have hlnx2 : vt_ln OX = vt_c OX := by unfold vt_ln; rw [if_neg (by omega)]
              have hlny2 : vt_ln OY = vt_c OY := by unfold vt_ln; rw [if_neg (by omega)]
              have hcc : vt_c OX = vt_c OY := by omega
              have hoo : vt_ord (vt_l OX) (vt_l OY) = 0 := by rw [hoX.2.2.1 (by omega), hoY.2.2.1 (by omega)]; rfl
              refine lv_aload_n hx hb d_Mo_same_75 rfl (lv_at hl 3 rfl) ?_
              refine mo_getA C V X 1 (by decide) (by decide) f_Mo_7 rfl d_Mo_same_76 ?_
              refine lv_iload hx hb d_Mo_same_79 (lv_at hl 1 rfl) ?_
              refine mo_ild (k := 1) (i := x) (n := 760) C V X (by decide) (by decide) rfl (by omega) (by decide) d_Mo_same_81 ?_
              rw [show I1 1 x = nI 3 from h1x]
              refine lv_iconst (v := 3) hx hb d_Mo_same_82 (by decide) ?_
              refine lv_icmp_ne (tgt := 104) hx hb d_Mo_same_83 (by decide) (fun c15 => absurd (by decide) c15) (fun c15 => ?_)
              refine lv_aload_n hx hb d_Mo_same_86 rfl (lv_at hl 3 rfl) ?_
              refine mo_getA C V X 2 (by decide) (by decide) f_Mo_13 rfl d_Mo_same_87 ?_
              refine lv_iload hx hb d_Mo_same_90 (lv_at hl 1 rfl) ?_
              refine mo_lld (k := 2) (i := x) (n := 760) C V X (by decide) (by decide) rfl (by omega) (by decide) d_Mo_same_92 ?_
              refine lv_aload_n hx hb d_Mo_same_93 rfl (lv_at hl 3 rfl) ?_
              refine mo_getA C V X 2 (by decide) (by decide) f_Mo_13 rfl d_Mo_same_94 ?_
              refine lv_iload hx hb d_Mo_same_97 (lv_at hl 0 rfl) ?_
              refine mo_lld (k := 2) (i := y) (n := 760) C V X (by decide) (by decide) rfl (by omega) (by decide) d_Mo_same_99 ?_
              refine W.lcmp hx hb d_Mo_same_100 ?_
              refine lv_if_ne (tgt := 126) hx hb d_Mo_same_101 (by decide) (fun c16 => ?_) (fun c16 => ?_)
              · have c16 : ¬ (J 2 x) = (J 2 y) := by rw [← lg_eq]; exact c16
                refine lv_iconst (v := 0) hx hb d_Mo_same_126 (by decide) ?_
                refine gh_retz hAe C V hr (by first | rfl | decide) hlocks d_Mo_same_127 (by first | decide | omega | (dsimp only; omega)) (by first | decide | omega | (dsimp only; omega)) ?_
                have hfa : vt_sm 8 OX OY = false := by rw [vt_sm8 hOx.2, if_neg (fun z => absurd (by rw [h2x, h2y]; exact z.2.2.1) c16)]
                have hFF : vt_sm 8 X0 Y0 = false := by rw [← hA, hfa, Bool.and_false]
                exact ⟨by rw [hFF]; rfl, I1, X, hss.1⟩
              · have c16 : (J 2 x) = (J 2 y) := by rw [← lg_eq]; exact c16
                refine lv_aload_n hx hb d_Mo_same_104 rfl (lv_at hl 3 rfl) ?_
                refine mo_getA C V X 1 (by decide) (by decide) f_Mo_7 rfl d_Mo_same_105 ?_
                refine lv_iload hx hb d_Mo_same_108 (lv_at hl 1 rfl) ?_
                refine mo_ild (k := 1) (i := x) (n := 760) C V X (by decide) (by decide) rfl (by omega) (by decide) d_Mo_same_110 ?_
                rw [show I1 1 x = nI 3 from h1x]
                refine lv_iconst (v := 4) hx hb d_Mo_same_111 (by decide) ?_
                refine lv_icmp_ne (tgt := 128) hx hb d_Mo_same_112 (by decide) (fun c17 => ?_) (fun c17 => absurd c17 (by decide))
                have hnn : vt_n OX = vt_n OY := by rw [← h2x, ← h2y]; exact c16
                have hA : (ss_A PX PY n9 && vt_sml (vt_sm 8) OX OY (vt_c OX) 0) = vt_sm 8 X0 Y0 := by rw [← hA, vt_sm8 hOx.2, if_pos ⟨hkk, hcc, hnn, hoo⟩]
                have hc0 : vt_c OX = 0 := hoX.2.2.2.2.2.1 (by omega)
                rw [hc0] at hA
                have hA : ss_A PX PY n9 = vt_sm 8 X0 Y0 := by rw [← hA]; exact (Bool.and_true _).symm
                have hwp : 1 ≤ vt_w OX := by rw [hoX.2.2.2.2.2.2.2.2.2.1, hc0]; exact Nat.le_refl _
                refine lv_iconst (v := 0) hx hb d_Mo_same_128 (by decide) ?_
                refine lv_istore hx hb d_Mo_same_129 hl (by decide) rfl (fun ls hl => ?_)
                have hl : lv_has ls 8 [(6, .int 0), (5, .int (nI y)), (4, .int (nI x)), (3, .int (nI n9)), (0, .ref a)] := hl
                refine lv_aload_n hx hb d_Mo_same_131 rfl (lv_at hl 4 rfl) ?_
                refine lv_iload hx hb d_Mo_same_132 (lv_at hl 2 rfl) ?_
                refine gh_callV C V hl.1 m_Mo_isMany l_Mo_169 (c_Mo_isMany l E _ _ a ad _ _ _ x X.1 hx7) rfl X.1.1 gc_Mo ⟨by first | decide | omega | (dsimp only; omega), by first | decide | omega | (dsimp only; omega)⟩ ⟨by first | decide | omega | (dsimp only; omega), by first | decide | omega | (dsimp only; omega)⟩ (Nat.le_of_ble_eq_true rfl) rfl d_Mo_same_134 (fun r z9 H locs hp V1 => ?_)
                rw [h1x] at hp
                obtain ⟨rfl, he9⟩ := hp
                rw [he9] at V1
                have V := V1
                refine W.eq (g2 := F0 m 137 ls [.int (gh_bi false)]) rfl ?_
                refine lv_if_eq (tgt := 229) hx hb d_Mo_same_137 (by decide) (fun c18 => ?_) (fun c18 => absurd (by decide) c18)
                refine lv_goto (tgt := 16) hx hb d_Mo_same_229 (by decide) ?_
                have hl : lv_has ls 8 [(3, .int (nI n9)), (0, .ref a)] := lv_sub hl [3, 4] rfl
                exact ih n9 PX PY I1 _ H locs ls (by omega) (by omega) ⟨hss.1, fun j hj => hss.2 j (by omega)⟩ hA X V hl
            · rw [hk] at h1x
              have h3x4 : I1 3 x = nI (vt_l OX).length := by rw [h3x]; unfold vt_ln; rw [if_pos (by omega)]
              have h3y4 : I1 3 y = nI (vt_l OY).length := by rw [h3y]; unfold vt_ln; rw [if_pos (by omega)]
              have hcc : vt_c OX = vt_c OY := by have := hoX.2.2.2.2.2.1 (by omega); have := hoY.2.2.2.2.2.1 (by omega); omega
              have hnn : vt_n OX = vt_n OY := by rw [hoX.2.1 (by omega), hoY.2.1 (by omega)]
              refine lv_aload_n hx hb d_Mo_same_75 rfl (lv_at hl 3 rfl) ?_
              refine mo_getA C V X 1 (by decide) (by decide) f_Mo_7 rfl d_Mo_same_76 ?_
              refine lv_iload hx hb d_Mo_same_79 (lv_at hl 1 rfl) ?_
              refine mo_ild (k := 1) (i := x) (n := 760) C V X (by decide) (by decide) rfl (by omega) (by decide) d_Mo_same_81 ?_
              rw [show I1 1 x = nI 4 from h1x]
              refine lv_iconst (v := 3) hx hb d_Mo_same_82 (by decide) ?_
              refine lv_icmp_ne (tgt := 104) hx hb d_Mo_same_83 (by decide) (fun c19 => ?_) (fun c19 => absurd c19 (by decide))
              refine lv_aload_n hx hb d_Mo_same_104 rfl (lv_at hl 3 rfl) ?_
              refine mo_getA C V X 1 (by decide) (by decide) f_Mo_7 rfl d_Mo_same_105 ?_
              refine lv_iload hx hb d_Mo_same_108 (lv_at hl 1 rfl) ?_
              refine mo_ild (k := 1) (i := x) (n := 760) C V X (by decide) (by decide) rfl (by omega) (by decide) d_Mo_same_110 ?_
              rw [show I1 1 x = nI 4 from h1x]
              refine lv_iconst (v := 4) hx hb d_Mo_same_111 (by decide) ?_
              refine lv_icmp_ne (tgt := 128) hx hb d_Mo_same_112 (by decide) (fun c20 => absurd (by decide) c20) (fun c20 => ?_)
              refine lv_aload_n hx hb d_Mo_same_115 rfl (lv_at hl 3 rfl) ?_
              refine lv_iload hx hb d_Mo_same_116 (lv_at hl 1 rfl) ?_
              refine lv_iload hx hb d_Mo_same_118 (lv_at hl 0 rfl) ?_
              refine gh_callV C V hl.1 m_Mo_compareLetters l_Mo_153 (c_Mo_compareLetters l E _ _ a ad _ _ _ x y (vt_l OX) (vt_l OY) X.1 hx7 hy7 h3x4 h3y4 h4x h4y) rfl X.1.1 gc_Mo ⟨by first | decide | omega | (dsimp only; omega), by first | decide | omega | (dsimp only; omega)⟩ ⟨by first | decide | omega | (dsimp only; omega), by first | decide | omega | (dsimp only; omega)⟩ (Nat.le_of_ble_eq_true rfl) rfl d_Mo_same_120 (fun r z9 H locs hp V1 => ?_)
              obtain ⟨rfl, he9⟩ := hp
              rw [he9] at V1
              have V := V1
              refine W.eq (g2 := F0 m 123 ls [.int (vt_ord (vt_l OX) (vt_l OY))]) rfl ?_
              refine lv_if_eq (tgt := 128) hx hb d_Mo_same_123 (by decide) (fun c21 => ?_) (fun c21 => ?_)
              · have hoo : vt_ord (vt_l OX) (vt_l OY) = 0 := c21
                have hA : (ss_A PX PY n9 && vt_sml (vt_sm 8) OX OY (vt_c OX) 0) = vt_sm 8 X0 Y0 := by rw [← hA, vt_sm8 hOx.2, if_pos ⟨hkk, hcc, hnn, hoo⟩]
                have hc0 : vt_c OX = 0 := hoX.2.2.2.2.2.1 (by omega)
                rw [hc0] at hA
                have hA : ss_A PX PY n9 = vt_sm 8 X0 Y0 := by rw [← hA]; exact (Bool.and_true _).symm
                have hwp : 1 ≤ vt_w OX := by rw [hoX.2.2.2.2.2.2.2.2.2.1, hc0]; exact Nat.le_refl _
                refine lv_iconst (v := 0) hx hb d_Mo_same_128 (by decide) ?_
                refine lv_istore hx hb d_Mo_same_129 hl (by decide) rfl (fun ls hl => ?_)
                have hl : lv_has ls 8 [(6, .int 0), (5, .int (nI y)), (4, .int (nI x)), (3, .int (nI n9)), (0, .ref a)] := hl
                refine lv_aload_n hx hb d_Mo_same_131 rfl (lv_at hl 4 rfl) ?_
                refine lv_iload hx hb d_Mo_same_132 (lv_at hl 2 rfl) ?_
                refine gh_callV C V hl.1 m_Mo_isMany l_Mo_169 (c_Mo_isMany l E _ _ a ad _ _ _ x X.1 hx7) rfl X.1.1 gc_Mo ⟨by first | decide | omega | (dsimp only; omega), by first | decide | omega | (dsimp only; omega)⟩ ⟨by first | decide | omega | (dsimp only; omega), by first | decide | omega | (dsimp only; omega)⟩ (Nat.le_of_ble_eq_true rfl) rfl d_Mo_same_134 (fun r z9 H locs hp V1 => ?_)
                rw [h1x] at hp
                obtain ⟨rfl, he9⟩ := hp
                rw [he9] at V1
                have V := V1
                refine W.eq (g2 := F0 m 137 ls [.int (gh_bi false)]) rfl ?_
                refine lv_if_eq (tgt := 229) hx hb d_Mo_same_137 (by decide) (fun c22 => ?_) (fun c22 => absurd (by decide) c22)
                refine lv_goto (tgt := 16) hx hb d_Mo_same_229 (by decide) ?_
                have hl : lv_has ls 8 [(3, .int (nI n9)), (0, .ref a)] := lv_sub hl [3, 4] rfl
                exact ih n9 PX PY I1 _ H locs ls (by omega) (by omega) ⟨hss.1, fun j hj => hss.2 j (by omega)⟩ hA X V hl
              · refine lv_iconst (v := 0) hx hb d_Mo_same_126 (by decide) ?_
                refine gh_retz hAe C V hr (by first | rfl | decide) hlocks d_Mo_same_127 (by first | decide | omega | (dsimp only; omega)) (by first | decide | omega | (dsimp only; omega)) ?_
                have hfa : vt_sm 8 OX OY = false := by rw [vt_sm8 hOx.2, if_neg (fun z => absurd z.2.2.2 c21)]
                have hFF : vt_sm 8 X0 Y0 = false := by rw [← hA, hfa, Bool.and_false]
                exact ⟨by rw [hFF]; rfl, I1, X, hss.1⟩
            · rw [hk] at h1x
              have hlnx2 : vt_ln OX = vt_c OX := by unfold vt_ln; rw [if_neg (by omega)]
              have hlny2 : vt_ln OY = vt_c OY := by unfold vt_ln; rw [if_neg (by omega)]
              have hcc : vt_c OX = vt_c OY := by omega
              have hnn : vt_n OX = vt_n OY := by rw [hoX.2.1 (by omega), hoY.2.1 (by omega)]
              have hoo : vt_ord (vt_l OX) (vt_l OY) = 0 := by rw [hoX.2.2.1 (by omega), hoY.2.2.1 (by omega)]; rfl
              refine lv_aload_n hx hb d_Mo_same_75 rfl (lv_at hl 3 rfl) ?_
              refine mo_getA C V X 1 (by decide) (by decide) f_Mo_7 rfl d_Mo_same_76 ?_
              refine lv_iload hx hb d_Mo_same_79 (lv_at hl 1 rfl) ?_
              refine mo_ild (k := 1) (i := x) (n := 760) C V X (by decide) (by decide) rfl (by omega) (by decide) d_Mo_same_81 ?_
              rw [show I1 1 x = nI 5 from h1x]
              refine lv_iconst (v := 3) hx hb d_Mo_same_82 (by decide) ?_
              refine lv_icmp_ne (tgt := 104) hx hb d_Mo_same_83 (by decide) (fun c23 => ?_) (fun c23 => absurd c23 (by decide))
              refine lv_aload_n hx hb d_Mo_same_104 rfl (lv_at hl 3 rfl) ?_
              refine mo_getA C V X 1 (by decide) (by decide) f_Mo_7 rfl d_Mo_same_105 ?_
              refine lv_iload hx hb d_Mo_same_108 (lv_at hl 1 rfl) ?_
              refine mo_ild (k := 1) (i := x) (n := 760) C V X (by decide) (by decide) rfl (by omega) (by decide) d_Mo_same_110 ?_
              rw [show I1 1 x = nI 5 from h1x]
              refine lv_iconst (v := 4) hx hb d_Mo_same_111 (by decide) ?_
              refine lv_icmp_ne (tgt := 128) hx hb d_Mo_same_112 (by decide) (fun c24 => ?_) (fun c24 => absurd c24 (by decide))
              have hA : (ss_A PX PY n9 && vt_sml (vt_sm 8) OX OY (vt_c OX) 0) = vt_sm 8 X0 Y0 := by rw [← hA, vt_sm8 hOx.2, if_pos ⟨hkk, hcc, hnn, hoo⟩]
              have hwx := hoX.2.2.2.2.2.2.2.2.2.1
              refine lv_iconst (v := 0) hx hb d_Mo_same_128 (by decide) ?_
              refine lv_istore hx hb d_Mo_same_129 hl (by decide) rfl (fun ls hl => ?_)
              have hl : lv_has ls 8 [(6, .int 0), (5, .int (nI y)), (4, .int (nI x)), (3, .int (nI n9)), (0, .ref a)] := hl
              have hl : lv_has ls 8 [(6, .int 0), (3, .int (nI n9)), (0, .ref a), (4, .int (nI x)), (5, .int (nI y))] := lv_sub hl [0, 3, 4, 2, 1] rfl
              have hl : lv_has ls 8 [(6, .int (nI 0)), (3, .int (nI (n9 + 0))), (0, .ref a), (4, .int (nI x)), (5, .int (nI y))] := hl
              have loop2 : ∀ (m9 i9 : Nat) (P1 Q1 : Nat → vt) (I2 : mo_I) (f1 : gh_F) (H : Heap) (locs : List Loc) (ls : Array Slot), i9 + m9 = vt_c OX → ss_R I I2 J b0 nv pb np (n9 + i9) P1 Q1 → ss_W P1 (n9 + i9) + 1 = ss_W PX n9 + vt_ws OX i9 → (ss_A P1 Q1 (n9 + i9) && vt_sml (vt_sm 8) OX OY m9 i9) = vt_sm 8 X0 Y0 → mo_X E f f1 a ad S I2 J → gh_V E A f1 s H locs → lv_has ls 8 [(6, .int (nI i9)), (3, .int (nI (n9 + i9))), (0, .ref a), (4, .int (nI x)), (5, .int (nI y))] → W p l e { frames := 6, cells := 0, slots := 0, locals := 180 } s m args below meth c H locs 0 0 (MQ below (gh_Q E f (fun r g => r = some (.int (gh_bi (vt_sm 8 X0 Y0))) ∧ ∃ I2, mo_X E f g a ad S I2 J ∧ ∀ k, k ≠ 58 → k ≠ 59 → I2 k = I k)) args s 0 0 A) (F0 m 131 ls []) := by
                intro m9
                induction m9 with
                | zero =>
                  intro i9 P1 Q1 I2 f1 H locs ls hi hss2 hW2 hA2 X V hl
                  have hOx2 := hmx.keep hss2.ma (Nat.le_refl _) (Nat.le_refl _) hp8
                  have hOy2 := hmy.keep hss2.ma (Nat.le_refl _) (Nat.le_refl _) hp8
                  obtain ⟨-, g1x, g2x, g3x, g4x, g5x, g6x, g7x⟩ := mv_o.mp hOx2.1
                  obtain ⟨-, g1y, g2y, g3y, g4y, g5y, g6y, g7y⟩ := mv_o.mp hOy2.1
                  rw [hk] at g1x
                  rw [hlnx2] at g3x
                  rw [hlny2] at g3y
                  have hge2 := hss2.ge
                  have hwm := vt_ws_mono (X := OX) (i := i9) (0)
                  have hi0 : i9 = vt_c OX := by omega
                  rw [← hi0] at hwx
                  refine lv_aload_n hx hb d_Mo_same_131 rfl (lv_at hl 2 rfl) ?_
                  refine lv_iload hx hb d_Mo_same_132 (lv_at hl 3 rfl) ?_
                  refine gh_callV C V hl.1 m_Mo_isMany l_Mo_169 (c_Mo_isMany l E _ _ a ad _ _ _ x X.1 hx7) rfl X.1.1 gc_Mo ⟨by first | decide | omega | (dsimp only; omega), by first | decide | omega | (dsimp only; omega)⟩ ⟨by first | decide | omega | (dsimp only; omega), by first | decide | omega | (dsimp only; omega)⟩ (Nat.le_of_ble_eq_true rfl) rfl d_Mo_same_134 (fun r z9 H locs hp V1 => ?_)
                  rw [g1x] at hp
                  obtain ⟨rfl, he9⟩ := hp
                  rw [he9] at V1
                  have V := V1
                  refine W.eq (g2 := F0 m 137 ls [.int (gh_bi true)]) rfl ?_
                  refine lv_if_eq (tgt := 229) hx hb d_Mo_same_137 (by decide) (fun c25 => absurd c25 (by decide)) (fun c25 => ?_)
                  refine lv_iload hx hb d_Mo_same_140 (lv_at hl 0 rfl) ?_
                  refine lv_aload_n hx hb d_Mo_same_142 rfl (lv_at hl 2 rfl) ?_
                  refine mo_getA C V X 3 (by decide) (by decide) f_Mo_17 rfl d_Mo_same_143 ?_
                  refine lv_iload hx hb d_Mo_same_146 (lv_at hl 3 rfl) ?_
                  refine mo_ild (k := 3) (i := x) (n := 760) C V X (by decide) (by decide) rfl (by omega) (by decide) d_Mo_same_148 ?_
                  rw [show I2 3 x = nI (vt_c OX) from g3x]
                  refine lv_icmp_ge (tgt := 229) hx hb d_Mo_same_149 (by decide) (fun c26 => ?_) (fun c26 => absurd (nI_le (by omega) (by omega)) c26)
                  refine lv_goto (tgt := 16) hx hb d_Mo_same_229 (by decide) ?_
                  have hl : lv_has ls 8 [(3, .int (nI (n9 + i9))), (0, .ref a)] := lv_sub hl [1, 2] rfl
                  exact ih (n9 + i9) P1 Q1 I2 _ H locs ls (by omega) (by omega) hss2 (by rw [← hA2]; exact (Bool.and_true _).symm) X V hl
                | succ m9 ih2 =>
                  intro i9 P1 Q1 I2 f1 H locs ls hi hss2 hW2 hA2 X V hl
                  have hOx2 := hmx.keep hss2.ma (Nat.le_refl _) (Nat.le_refl _) hp8
                  have hOy2 := hmy.keep hss2.ma (Nat.le_refl _) (Nat.le_refl _) hp8
                  obtain ⟨-, g1x, g2x, g3x, g4x, g5x, g6x, g7x⟩ := mv_o.mp hOx2.1
                  obtain ⟨-, g1y, g2y, g3y, g4y, g5y, g6y, g7y⟩ := mv_o.mp hOy2.1
                  rw [hk] at g1x
                  rw [hlnx2] at g3x
                  rw [hlny2] at g3y
                  have hge2 := hss2.ge
                  have hwm := vt_ws_mono (X := OX) (i := i9) (m9 + 1)
                  rw [hi] at hwm
                  obtain ⟨fx, BX, KX, hfx, ⟨hf1x, hf2x, hf3x⟩, hBX, hKX⟩ := g7x (by omega)
                  obtain ⟨fy, BY, KY, hfy, ⟨hf1y, hf2y, hf3y⟩, hBY, hKY⟩ := g7y (by omega)
                  have hqx := hoX.2.2.2.2.1
                  have hqy := hoY.2.2.2.2.1
                  rw [← hkk] at hqy
                  rw [if_neg (by omega)] at hqx hqy
                  refine lv_aload_n hx hb d_Mo_same_131 rfl (lv_at hl 2 rfl) ?_
                  refine lv_iload hx hb d_Mo_same_132 (lv_at hl 3 rfl) ?_
                  refine gh_callV C V hl.1 m_Mo_isMany l_Mo_169 (c_Mo_isMany l E _ _ a ad _ _ _ x X.1 hx7) rfl X.1.1 gc_Mo ⟨by first | decide | omega | (dsimp only; omega), by first | decide | omega | (dsimp only; omega)⟩ ⟨by first | decide | omega | (dsimp only; omega), by first | decide | omega | (dsimp only; omega)⟩ (Nat.le_of_ble_eq_true rfl) rfl d_Mo_same_134 (fun r z9 H locs hp V1 => ?_)
                  rw [g1x] at hp
                  obtain ⟨rfl, he9⟩ := hp
                  rw [he9] at V1
                  have V := V1
                  refine W.eq (g2 := F0 m 137 ls [.int (gh_bi true)]) rfl ?_
                  refine lv_if_eq (tgt := 229) hx hb d_Mo_same_137 (by decide) (fun c27 => absurd c27 (by decide)) (fun c27 => ?_)
                  refine lv_iload hx hb d_Mo_same_140 (lv_at hl 0 rfl) ?_
                  refine lv_aload_n hx hb d_Mo_same_142 rfl (lv_at hl 2 rfl) ?_
                  refine mo_getA C V X 3 (by decide) (by decide) f_Mo_17 rfl d_Mo_same_143 ?_
                  refine lv_iload hx hb d_Mo_same_146 (lv_at hl 3 rfl) ?_
                  refine mo_ild (k := 3) (i := x) (n := 760) C V X (by decide) (by decide) rfl (by omega) (by decide) d_Mo_same_148 ?_
                  rw [show I2 3 x = nI (vt_c OX) from g3x]
                  refine lv_icmp_ge (tgt := 229) hx hb d_Mo_same_149 (by decide) (fun c28 => absurd c28 (nI_ge (by omega) (by omega))) (fun c28 => ?_)
                  refine lv_aload_n hx hb d_Mo_same_152 rfl (lv_at hl 2 rfl) ?_
                  refine mo_getA C V X 1 (by decide) (by decide) f_Mo_7 rfl d_Mo_same_153 ?_
                  refine lv_iload hx hb d_Mo_same_156 (lv_at hl 3 rfl) ?_
                  refine mo_ild (k := 1) (i := x) (n := 760) C V X (by decide) (by decide) rfl (by omega) (by decide) d_Mo_same_158 ?_
                  rw [show I2 1 x = nI 5 from g1x]
                  refine lv_bipush (v := 6) hx hb d_Mo_same_159 (by decide) ?_
                  refine lv_icmp_ne (tgt := 181) hx hb d_Mo_same_161 (by decide) (fun c29 => ?_) (fun c29 => absurd c29 (by decide))
                  refine lv_iload hx hb d_Mo_same_181 (lv_at hl 0 rfl) ?_
                  refine lv_istore hx hb d_Mo_same_183 hl (by decide) rfl (fun ls hl => ?_)
                  have hl : lv_has ls 8 [(7, .int (nI i9)), (6, .int (nI i9)), (3, .int (nI (n9 + i9))), (0, .ref a), (4, .int (nI x)), (5, .int (nI y))] := hl
                  refine lv_iload hx hb d_Mo_same_185 (lv_at hl 0 rfl) ?_
                  refine lv_if_ge (tgt := 192) hx hb d_Mo_same_187 (by decide) (fun c30 => ?_) (fun c30 => absurd (Int32.not_lt.mp (nI_pos (by omega))) c30)
                  refine lv_aload_n hx hb d_Mo_same_192 rfl (lv_at hl 3 rfl) ?_
                  refine mo_getA C V X 58 (by decide) (by decide) f_Mo_130 rfl d_Mo_same_193 ?_
                  refine lv_iload_n hx hb d_Mo_same_196 rfl (lv_at hl 2 rfl) ?_
                  refine lv_aload_n hx hb d_Mo_same_197 rfl (lv_at hl 3 rfl) ?_
                  refine lv_iload hx hb d_Mo_same_198 (lv_at hl 4 rfl) ?_
                  refine lv_iload hx hb d_Mo_same_200 (lv_at hl 1 rfl) ?_
                  refine gh_callV C V hl.1 m_Mo_itemOf l_Mo_176 (c_Mo_itemOf l E _ _ a ad _ _ _ x i9 fx X.1 hx7 hfx (by omega)) rfl X.1.1 gc_Mo ⟨by first | decide | omega | (dsimp only; omega), by first | decide | omega | (dsimp only; omega)⟩ ⟨by first | decide | omega | (dsimp only; omega), by first | decide | omega | (dsimp only; omega)⟩ (Nat.le_of_ble_eq_true rfl) rfl d_Mo_same_202 (fun r z9 H locs hp V1 => ?_)
                  rw [(hBX i9 (by omega)).1] at hp
                  obtain ⟨rfl, he9⟩ := hp
                  rw [he9] at V1
                  have V := V1
                  refine W.eq (g2 := F0 m 205 ls [.int (nI (BX i9)), .int (nI (n9 + i9)), .ref (ad 58)]) rfl ?_
                  refine mo_ist (k := 58) (i := n9 + i9) (n := 160) C V X (by decide) (by decide) rfl (by omega) (by decide) d_Mo_same_205 (fun f1 H locs V1 X1 => ?_)
                  clear V X
                  have V := V1
                  have X := X1
                  clear V1 X1
                  refine lv_aload_n hx hb d_Mo_same_206 rfl (lv_at hl 3 rfl) ?_
                  refine mo_getA C V X 59 (by decide) (by decide) f_Mo_133 rfl d_Mo_same_207 ?_
                  refine lv_iload_n hx hb d_Mo_same_210 rfl (lv_at hl 2 rfl) ?_
                  refine lv_aload_n hx hb d_Mo_same_211 rfl (lv_at hl 3 rfl) ?_
                  refine lv_iload hx hb d_Mo_same_212 (lv_at hl 5 rfl) ?_
                  refine lv_iload hx hb d_Mo_same_214 (lv_at hl 0 rfl) ?_
                  have hfyy : (va_up I2 58 (upd (I2 58) (n9 + i9) (nI (BX i9)))) 9 y = nI fy := by rw [va_up_n (by decide)]; exact hfy
                  have hByy : (va_up I2 58 (upd (I2 58) (n9 + i9) (nI (BX i9)))) 10 (fy + i9) = nI (BY i9) := by rw [va_up_n (by decide)]; exact (hBY i9 (by omega)).1
                  refine gh_callV C V hl.1 m_Mo_itemOf l_Mo_176 (c_Mo_itemOf l E _ _ a ad _ _ _ y i9 fy X.1 hy7 hfyy (by omega)) rfl X.1.1 gc_Mo ⟨by first | decide | omega | (dsimp only; omega), by first | decide | omega | (dsimp only; omega)⟩ ⟨by first | decide | omega | (dsimp only; omega), by first | decide | omega | (dsimp only; omega)⟩ (Nat.le_of_ble_eq_true rfl) rfl d_Mo_same_216 (fun r z9 H locs hp V1 => ?_)
                  rw [hByy] at hp
                  obtain ⟨rfl, he9⟩ := hp
                  rw [he9] at V1
                  have V := V1
                  refine W.eq (g2 := F0 m 219 ls [.int (nI (BY i9)), .int (nI (n9 + i9)), .ref (ad 59)]) rfl ?_
                  refine mo_ist (k := 59) (i := n9 + i9) (n := 160) C V X (by decide) (by decide) rfl (by omega) (by decide) d_Mo_same_219 (fun f1 H locs V1 X1 => ?_)
                  clear V X
                  have V := V1
                  have X := X1
                  clear V1 X1
                  refine lv_iinc (k := 2) (v := (nI (n9 + i9)) + 1) hx hb d_Mo_same_220 hl rfl (by rfl) (by decide) rfl (fun ls hl => ?_)
                  have hl : lv_has ls 8 [(3, .int (nI ((n9 + i9) + 1))), (7, .int (nI i9)), (6, .int (nI i9)), (0, .ref a), (4, .int (nI x)), (5, .int (nI y))] := by rw [nI_succ]; exact hl
                  refine lv_iinc (k := 2) (v := (nI i9) + 1) hx hb d_Mo_same_223 hl rfl (by rfl) (by decide) rfl (fun ls hl => ?_)
                  have hl : lv_has ls 8 [(6, .int (nI (i9 + 1))), (3, .int (nI ((n9 + i9) + 1))), (7, .int (nI i9)), (0, .ref a), (4, .int (nI x)), (5, .int (nI y))] := by rw [nI_succ]; exact hl
                  refine lv_goto (tgt := 131) hx hb d_Mo_same_226 (by decide) ?_
                  have hl : lv_has ls 8 [(6, .int (nI (i9 + 1))), (3, .int (nI ((n9 + i9) + 1))), (0, .ref a), (4, .int (nI x)), (5, .int (nI y))] := lv_sub hl [0, 1, 3, 4, 5] rfl
                  have hmxi := mw_item hOx.2 (show i9 < vt_c OX by omega) (hBX i9 (by omega)).2
                  have hmyi := mw_item hOy.2 (show i9 < vt_c OY by omega) (hBY i9 (by omega)).2
                  have hma2 : ma I2 J I J b0 nv pb np := ma_other (fun k hk => (hss2.1 k (by omega) (by omega)).symm)
                  refine ih2 (i9 + 1) (ss_p P1 (n9 + i9) (vt_s OX i9)) (ss_p Q1 (n9 + i9) (vt_s OY i9)) _ _ H locs ls (by omega) (hss2.push (hmxi.keep hma2 (Nat.le_refl _) (Nat.le_refl _) hp8) (hmyi.keep hma2 (Nat.le_refl _) (Nat.le_refl _) hp8)) ?_ ?_ X V hl
                  · show ss_W _ (n9 + i9 + 1) + 1 = ss_W PX n9 + (vt_ws OX i9 + vt_w (vt_s OX i9)); rw [ss_W_s]; omega
                  · show (ss_A _ _ (n9 + i9 + 1) && _) = _
                    rw [ss_A_s, ← hA2, Bool.and_assoc]
                    have hs : vt_sml (vt_sm 8) OX OY (m9 + 1) i9 = (vt_sm 8 (vt_s OX i9) (vt_s OY i9) && vt_sml (vt_sm 8) OX OY m9 (i9 + 1)) := by
                      rw [vt_sml]; unfold vt_pl
                      rw [if_neg (by omega)]
                      show (if _ then _ else false) = _
                      cases vt_sm 8 (vt_s OX i9) (vt_s OY i9) <;> rfl
                    rw [hs]
              exact loop2 (vt_c OX) 0 PX PY I1 _ _ _ ls (by omega) ⟨hss.1, fun j hj => hss.2 j (by omega)⟩ rfl hA X V hl
            · rw [hk] at h1x
              have hlnx2 : vt_ln OX = vt_c OX := by unfold vt_ln; rw [if_neg (by omega)]
              have hlny2 : vt_ln OY = vt_c OY := by unfold vt_ln; rw [if_neg (by omega)]
              have hcc : vt_c OX = vt_c OY := by omega
              have hnn : vt_n OX = vt_n OY := by rw [hoX.2.1 (by omega), hoY.2.1 (by omega)]
              have hoo : vt_ord (vt_l OX) (vt_l OY) = 0 := by rw [hoX.2.2.1 (by omega), hoY.2.2.1 (by omega)]; rfl
              refine lv_aload_n hx hb d_Mo_same_75 rfl (lv_at hl 3 rfl) ?_
              refine mo_getA C V X 1 (by decide) (by decide) f_Mo_7 rfl d_Mo_same_76 ?_
              refine lv_iload hx hb d_Mo_same_79 (lv_at hl 1 rfl) ?_
              refine mo_ild (k := 1) (i := x) (n := 760) C V X (by decide) (by decide) rfl (by omega) (by decide) d_Mo_same_81 ?_
              rw [show I1 1 x = nI 6 from h1x]
              refine lv_iconst (v := 3) hx hb d_Mo_same_82 (by decide) ?_
              refine lv_icmp_ne (tgt := 104) hx hb d_Mo_same_83 (by decide) (fun c31 => ?_) (fun c31 => absurd c31 (by decide))
              refine lv_aload_n hx hb d_Mo_same_104 rfl (lv_at hl 3 rfl) ?_
              refine mo_getA C V X 1 (by decide) (by decide) f_Mo_7 rfl d_Mo_same_105 ?_
              refine lv_iload hx hb d_Mo_same_108 (lv_at hl 1 rfl) ?_
              refine mo_ild (k := 1) (i := x) (n := 760) C V X (by decide) (by decide) rfl (by omega) (by decide) d_Mo_same_110 ?_
              rw [show I1 1 x = nI 6 from h1x]
              refine lv_iconst (v := 4) hx hb d_Mo_same_111 (by decide) ?_
              refine lv_icmp_ne (tgt := 128) hx hb d_Mo_same_112 (by decide) (fun c32 => ?_) (fun c32 => absurd c32 (by decide))
              have hA : (ss_A PX PY n9 && vt_sml (vt_sm 8) OX OY (vt_c OX) 0) = vt_sm 8 X0 Y0 := by rw [← hA, vt_sm8 hOx.2, if_pos ⟨hkk, hcc, hnn, hoo⟩]
              have hwx := hoX.2.2.2.2.2.2.2.2.2.1
              refine lv_iconst (v := 0) hx hb d_Mo_same_128 (by decide) ?_
              refine lv_istore hx hb d_Mo_same_129 hl (by decide) rfl (fun ls hl => ?_)
              have hl : lv_has ls 8 [(6, .int 0), (5, .int (nI y)), (4, .int (nI x)), (3, .int (nI n9)), (0, .ref a)] := hl
              have hl : lv_has ls 8 [(6, .int 0), (3, .int (nI n9)), (0, .ref a), (4, .int (nI x)), (5, .int (nI y))] := lv_sub hl [0, 3, 4, 2, 1] rfl
              have hl : lv_has ls 8 [(6, .int (nI 0)), (3, .int (nI (n9 + 0))), (0, .ref a), (4, .int (nI x)), (5, .int (nI y))] := hl
              have loop2 : ∀ (m9 i9 : Nat) (P1 Q1 : Nat → vt) (I2 : mo_I) (f1 : gh_F) (H : Heap) (locs : List Loc) (ls : Array Slot), i9 + m9 = vt_c OX → ss_R I I2 J b0 nv pb np (n9 + i9) P1 Q1 → ss_W P1 (n9 + i9) + 1 = ss_W PX n9 + vt_ws OX i9 → (ss_A P1 Q1 (n9 + i9) && vt_sml (vt_sm 8) OX OY m9 i9) = vt_sm 8 X0 Y0 → mo_X E f f1 a ad S I2 J → gh_V E A f1 s H locs → lv_has ls 8 [(6, .int (nI i9)), (3, .int (nI (n9 + i9))), (0, .ref a), (4, .int (nI x)), (5, .int (nI y))] → W p l e { frames := 6, cells := 0, slots := 0, locals := 180 } s m args below meth c H locs 0 0 (MQ below (gh_Q E f (fun r g => r = some (.int (gh_bi (vt_sm 8 X0 Y0))) ∧ ∃ I2, mo_X E f g a ad S I2 J ∧ ∀ k, k ≠ 58 → k ≠ 59 → I2 k = I k)) args s 0 0 A) (F0 m 131 ls []) := by
                intro m9
                induction m9 with
                | zero =>
                  intro i9 P1 Q1 I2 f1 H locs ls hi hss2 hW2 hA2 X V hl
                  have hOx2 := hmx.keep hss2.ma (Nat.le_refl _) (Nat.le_refl _) hp8
                  have hOy2 := hmy.keep hss2.ma (Nat.le_refl _) (Nat.le_refl _) hp8
                  obtain ⟨-, g1x, g2x, g3x, g4x, g5x, g6x, g7x⟩ := mv_o.mp hOx2.1
                  obtain ⟨-, g1y, g2y, g3y, g4y, g5y, g6y, g7y⟩ := mv_o.mp hOy2.1
                  rw [hk] at g1x
                  rw [hlnx2] at g3x
                  rw [hlny2] at g3y
                  have hge2 := hss2.ge
                  have hwm := vt_ws_mono (X := OX) (i := i9) (0)
                  have hi0 : i9 = vt_c OX := by omega
                  rw [← hi0] at hwx
                  refine lv_aload_n hx hb d_Mo_same_131 rfl (lv_at hl 2 rfl) ?_
                  refine lv_iload hx hb d_Mo_same_132 (lv_at hl 3 rfl) ?_
                  refine gh_callV C V hl.1 m_Mo_isMany l_Mo_169 (c_Mo_isMany l E _ _ a ad _ _ _ x X.1 hx7) rfl X.1.1 gc_Mo ⟨by first | decide | omega | (dsimp only; omega), by first | decide | omega | (dsimp only; omega)⟩ ⟨by first | decide | omega | (dsimp only; omega), by first | decide | omega | (dsimp only; omega)⟩ (Nat.le_of_ble_eq_true rfl) rfl d_Mo_same_134 (fun r z9 H locs hp V1 => ?_)
                  rw [g1x] at hp
                  obtain ⟨rfl, he9⟩ := hp
                  rw [he9] at V1
                  have V := V1
                  refine W.eq (g2 := F0 m 137 ls [.int (gh_bi true)]) rfl ?_
                  refine lv_if_eq (tgt := 229) hx hb d_Mo_same_137 (by decide) (fun c33 => absurd c33 (by decide)) (fun c33 => ?_)
                  refine lv_iload hx hb d_Mo_same_140 (lv_at hl 0 rfl) ?_
                  refine lv_aload_n hx hb d_Mo_same_142 rfl (lv_at hl 2 rfl) ?_
                  refine mo_getA C V X 3 (by decide) (by decide) f_Mo_17 rfl d_Mo_same_143 ?_
                  refine lv_iload hx hb d_Mo_same_146 (lv_at hl 3 rfl) ?_
                  refine mo_ild (k := 3) (i := x) (n := 760) C V X (by decide) (by decide) rfl (by omega) (by decide) d_Mo_same_148 ?_
                  rw [show I2 3 x = nI (vt_c OX) from g3x]
                  refine lv_icmp_ge (tgt := 229) hx hb d_Mo_same_149 (by decide) (fun c34 => ?_) (fun c34 => absurd (nI_le (by omega) (by omega)) c34)
                  refine lv_goto (tgt := 16) hx hb d_Mo_same_229 (by decide) ?_
                  have hl : lv_has ls 8 [(3, .int (nI (n9 + i9))), (0, .ref a)] := lv_sub hl [1, 2] rfl
                  exact ih (n9 + i9) P1 Q1 I2 _ H locs ls (by omega) (by omega) hss2 (by rw [← hA2]; exact (Bool.and_true _).symm) X V hl
                | succ m9 ih2 =>
                  intro i9 P1 Q1 I2 f1 H locs ls hi hss2 hW2 hA2 X V hl
                  have hOx2 := hmx.keep hss2.ma (Nat.le_refl _) (Nat.le_refl _) hp8
                  have hOy2 := hmy.keep hss2.ma (Nat.le_refl _) (Nat.le_refl _) hp8
                  obtain ⟨-, g1x, g2x, g3x, g4x, g5x, g6x, g7x⟩ := mv_o.mp hOx2.1
                  obtain ⟨-, g1y, g2y, g3y, g4y, g5y, g6y, g7y⟩ := mv_o.mp hOy2.1
                  rw [hk] at g1x
                  rw [hlnx2] at g3x
                  rw [hlny2] at g3y
                  have hge2 := hss2.ge
                  have hwm := vt_ws_mono (X := OX) (i := i9) (m9 + 1)
                  rw [hi] at hwm
                  obtain ⟨fx, BX, KX, hfx, ⟨hf1x, hf2x, hf3x⟩, hBX, hKX⟩ := g7x (by omega)
                  obtain ⟨fy, BY, KY, hfy, ⟨hf1y, hf2y, hf3y⟩, hBY, hKY⟩ := g7y (by omega)
                  have hqx := hoX.2.2.2.2.1
                  have hqy := hoY.2.2.2.2.1
                  rw [← hkk] at hqy
                  rw [if_pos hk] at hqx hqy
                  refine lv_aload_n hx hb d_Mo_same_131 rfl (lv_at hl 2 rfl) ?_
                  refine lv_iload hx hb d_Mo_same_132 (lv_at hl 3 rfl) ?_
                  refine gh_callV C V hl.1 m_Mo_isMany l_Mo_169 (c_Mo_isMany l E _ _ a ad _ _ _ x X.1 hx7) rfl X.1.1 gc_Mo ⟨by first | decide | omega | (dsimp only; omega), by first | decide | omega | (dsimp only; omega)⟩ ⟨by first | decide | omega | (dsimp only; omega), by first | decide | omega | (dsimp only; omega)⟩ (Nat.le_of_ble_eq_true rfl) rfl d_Mo_same_134 (fun r z9 H locs hp V1 => ?_)
                  rw [g1x] at hp
                  obtain ⟨rfl, he9⟩ := hp
                  rw [he9] at V1
                  have V := V1
                  refine W.eq (g2 := F0 m 137 ls [.int (gh_bi true)]) rfl ?_
                  refine lv_if_eq (tgt := 229) hx hb d_Mo_same_137 (by decide) (fun c35 => absurd c35 (by decide)) (fun c35 => ?_)
                  refine lv_iload hx hb d_Mo_same_140 (lv_at hl 0 rfl) ?_
                  refine lv_aload_n hx hb d_Mo_same_142 rfl (lv_at hl 2 rfl) ?_
                  refine mo_getA C V X 3 (by decide) (by decide) f_Mo_17 rfl d_Mo_same_143 ?_
                  refine lv_iload hx hb d_Mo_same_146 (lv_at hl 3 rfl) ?_
                  refine mo_ild (k := 3) (i := x) (n := 760) C V X (by decide) (by decide) rfl (by omega) (by decide) d_Mo_same_148 ?_
                  rw [show I2 3 x = nI (vt_c OX) from g3x]
                  refine lv_icmp_ge (tgt := 229) hx hb d_Mo_same_149 (by decide) (fun c36 => absurd c36 (nI_ge (by omega) (by omega))) (fun c36 => ?_)
                  refine lv_aload_n hx hb d_Mo_same_152 rfl (lv_at hl 2 rfl) ?_
                  refine mo_getA C V X 1 (by decide) (by decide) f_Mo_7 rfl d_Mo_same_153 ?_
                  refine lv_iload hx hb d_Mo_same_156 (lv_at hl 3 rfl) ?_
                  refine mo_ild (k := 1) (i := x) (n := 760) C V X (by decide) (by decide) rfl (by omega) (by decide) d_Mo_same_158 ?_
                  rw [show I2 1 x = nI 6 from g1x]
                  refine lv_bipush (v := 6) hx hb d_Mo_same_159 (by decide) ?_
                  refine lv_icmp_ne (tgt := 181) hx hb d_Mo_same_161 (by decide) (fun c37 => absurd (by decide) c37) (fun c37 => ?_)
                  refine lv_aload_n hx hb d_Mo_same_164 rfl (lv_at hl 2 rfl) ?_
                  refine lv_iload hx hb d_Mo_same_165 (lv_at hl 4 rfl) ?_
                  refine lv_aload_n hx hb d_Mo_same_167 rfl (lv_at hl 2 rfl) ?_
                  refine lv_iload hx hb d_Mo_same_168 (lv_at hl 3 rfl) ?_
                  refine lv_iload hx hb d_Mo_same_170 (lv_at hl 0 rfl) ?_
                  refine gh_callV C V hl.1 m_Mo_keyOf l_Mo_150 (c_Mo_keyOf l E _ _ a ad _ _ _ x i9 fx (vt_c OX) X.1 hx7 hfx g3x (by omega)) rfl X.1.1 gc_Mo ⟨by first | decide | omega | (dsimp only; omega), by first | decide | omega | (dsimp only; omega)⟩ ⟨by first | decide | omega | (dsimp only; omega), by first | decide | omega | (dsimp only; omega)⟩ (Nat.le_of_ble_eq_true rfl) rfl d_Mo_same_172 (fun r z9 H locs hp V1 => ?_)
                  rw [(hKX i9 (by omega)).1] at hp
                  obtain ⟨rfl, he9⟩ := hp
                  rw [he9] at V1
                  have V := V1
                  refine W.eq (g2 := F0 m 175 ls [.int (nI (KX i9)), .int (nI y), .ref a]) rfl ?_
                  have hkm := (hKX i9 (by omega)).2
                  refine gh_callV C V hl.1 m_Mo_findKey l_Mo_173 (c_Mo_findKey l E _ _ a ad _ _ _ b0 nv y (KX i9) fy OY KY ((vt_q OX).getD i9 []) X.1 hy7 hkm.1.2 g3y hfy hcy16 (by omega) hqy (fun j hj => hKY j (by omega)) hkm.2.2.2.1 hkm.2.2.2.2.1) rfl X.1.1 gc_Mo ⟨by first | decide | omega | (dsimp only; omega), by first | decide | omega | (dsimp only; omega)⟩ ⟨by first | decide | omega | (dsimp only; omega), by first | decide | omega | (dsimp only; omega)⟩ (Nat.le_of_ble_eq_true rfl) rfl d_Mo_same_175 (fun r z9 H locs hp V1 => ?_)
                  obtain ⟨rfl, he9⟩ := hp
                  rw [he9] at V1
                  have V := V1
                  cases hF : vt_find (vt_q OY) ((vt_q OX).getD i9 []) with
                  | none =>
                    refine W.eq (g2 := F0 m 178 ls [.int ((-1))]) rfl ?_
                    refine lv_goto (tgt := 183) hx hb d_Mo_same_178 (by decide) ?_
                    refine lv_istore hx hb d_Mo_same_183 hl (by decide) rfl (fun ls hl => ?_)
                    have hl : lv_has ls 8 [(7, .int ((-1))), (6, .int (nI i9)), (3, .int (nI (n9 + i9))), (0, .ref a), (4, .int (nI x)), (5, .int (nI y))] := hl
                    refine lv_iload hx hb d_Mo_same_185 (lv_at hl 0 rfl) ?_
                    refine lv_if_ge (tgt := 192) hx hb d_Mo_same_187 (by decide) (fun c38 => absurd c38 (by decide)) (fun c38 => ?_)
                    refine lv_iconst (v := 0) hx hb d_Mo_same_190 (by decide) ?_
                    refine gh_retz hAe C V hr (by first | rfl | decide) hlocks d_Mo_same_191 (by first | decide | omega | (dsimp only; omega)) (by first | decide | omega | (dsimp only; omega)) ?_
                    have hFF : vt_sm 8 X0 Y0 = false := by rw [← hA2]; unfold vt_sml vt_pl; rw [if_pos hk, hF]; exact Bool.and_false _
                    exact ⟨by rw [hFF]; rfl, I2, X, hss2.1⟩
                  | some j9 =>
                    have hj9 : j9 < vt_c OY := by have := vt_find_lt hF; omega
                    refine W.eq (g2 := F0 m 178 ls [.int (nI j9)]) rfl ?_
                    refine lv_goto (tgt := 183) hx hb d_Mo_same_178 (by decide) ?_
                    refine lv_istore hx hb d_Mo_same_183 hl (by decide) rfl (fun ls hl => ?_)
                    have hl : lv_has ls 8 [(7, .int (nI j9)), (6, .int (nI i9)), (3, .int (nI (n9 + i9))), (0, .ref a), (4, .int (nI x)), (5, .int (nI y))] := hl
                    refine lv_iload hx hb d_Mo_same_185 (lv_at hl 0 rfl) ?_
                    refine lv_if_ge (tgt := 192) hx hb d_Mo_same_187 (by decide) (fun c39 => ?_) (fun c39 => absurd (Int32.not_lt.mp (nI_pos (by omega))) c39)
                    refine lv_aload_n hx hb d_Mo_same_192 rfl (lv_at hl 3 rfl) ?_
                    refine mo_getA C V X 58 (by decide) (by decide) f_Mo_130 rfl d_Mo_same_193 ?_
                    refine lv_iload_n hx hb d_Mo_same_196 rfl (lv_at hl 2 rfl) ?_
                    refine lv_aload_n hx hb d_Mo_same_197 rfl (lv_at hl 3 rfl) ?_
                    refine lv_iload hx hb d_Mo_same_198 (lv_at hl 4 rfl) ?_
                    refine lv_iload hx hb d_Mo_same_200 (lv_at hl 1 rfl) ?_
                    refine gh_callV C V hl.1 m_Mo_itemOf l_Mo_176 (c_Mo_itemOf l E _ _ a ad _ _ _ x i9 fx X.1 hx7 hfx (by omega)) rfl X.1.1 gc_Mo ⟨by first | decide | omega | (dsimp only; omega), by first | decide | omega | (dsimp only; omega)⟩ ⟨by first | decide | omega | (dsimp only; omega), by first | decide | omega | (dsimp only; omega)⟩ (Nat.le_of_ble_eq_true rfl) rfl d_Mo_same_202 (fun r z9 H locs hp V1 => ?_)
                    rw [(hBX i9 (by omega)).1] at hp
                    obtain ⟨rfl, he9⟩ := hp
                    rw [he9] at V1
                    have V := V1
                    refine W.eq (g2 := F0 m 205 ls [.int (nI (BX i9)), .int (nI (n9 + i9)), .ref (ad 58)]) rfl ?_
                    refine mo_ist (k := 58) (i := n9 + i9) (n := 160) C V X (by decide) (by decide) rfl (by omega) (by decide) d_Mo_same_205 (fun f1 H locs V1 X1 => ?_)
                    clear V X
                    have V := V1
                    have X := X1
                    clear V1 X1
                    refine lv_aload_n hx hb d_Mo_same_206 rfl (lv_at hl 3 rfl) ?_
                    refine mo_getA C V X 59 (by decide) (by decide) f_Mo_133 rfl d_Mo_same_207 ?_
                    refine lv_iload_n hx hb d_Mo_same_210 rfl (lv_at hl 2 rfl) ?_
                    refine lv_aload_n hx hb d_Mo_same_211 rfl (lv_at hl 3 rfl) ?_
                    refine lv_iload hx hb d_Mo_same_212 (lv_at hl 5 rfl) ?_
                    refine lv_iload hx hb d_Mo_same_214 (lv_at hl 0 rfl) ?_
                    have hfyy : (va_up I2 58 (upd (I2 58) (n9 + i9) (nI (BX i9)))) 9 y = nI fy := by rw [va_up_n (by decide)]; exact hfy
                    have hByy : (va_up I2 58 (upd (I2 58) (n9 + i9) (nI (BX i9)))) 10 (fy + j9) = nI (BY j9) := by rw [va_up_n (by decide)]; exact (hBY j9 (by omega)).1
                    refine gh_callV C V hl.1 m_Mo_itemOf l_Mo_176 (c_Mo_itemOf l E _ _ a ad _ _ _ y j9 fy X.1 hy7 hfyy (by omega)) rfl X.1.1 gc_Mo ⟨by first | decide | omega | (dsimp only; omega), by first | decide | omega | (dsimp only; omega)⟩ ⟨by first | decide | omega | (dsimp only; omega), by first | decide | omega | (dsimp only; omega)⟩ (Nat.le_of_ble_eq_true rfl) rfl d_Mo_same_216 (fun r z9 H locs hp V1 => ?_)
                    rw [hByy] at hp
                    obtain ⟨rfl, he9⟩ := hp
                    rw [he9] at V1
                    have V := V1
                    refine W.eq (g2 := F0 m 219 ls [.int (nI (BY j9)), .int (nI (n9 + i9)), .ref (ad 59)]) rfl ?_
                    refine mo_ist (k := 59) (i := n9 + i9) (n := 160) C V X (by decide) (by decide) rfl (by omega) (by decide) d_Mo_same_219 (fun f1 H locs V1 X1 => ?_)
                    clear V X
                    have V := V1
                    have X := X1
                    clear V1 X1
                    refine lv_iinc (k := 2) (v := (nI (n9 + i9)) + 1) hx hb d_Mo_same_220 hl rfl (by rfl) (by decide) rfl (fun ls hl => ?_)
                    have hl : lv_has ls 8 [(3, .int (nI ((n9 + i9) + 1))), (7, .int (nI j9)), (6, .int (nI i9)), (0, .ref a), (4, .int (nI x)), (5, .int (nI y))] := by rw [nI_succ]; exact hl
                    refine lv_iinc (k := 2) (v := (nI i9) + 1) hx hb d_Mo_same_223 hl rfl (by rfl) (by decide) rfl (fun ls hl => ?_)
                    have hl : lv_has ls 8 [(6, .int (nI (i9 + 1))), (3, .int (nI ((n9 + i9) + 1))), (7, .int (nI j9)), (0, .ref a), (4, .int (nI x)), (5, .int (nI y))] := by rw [nI_succ]; exact hl
                    refine lv_goto (tgt := 131) hx hb d_Mo_same_226 (by decide) ?_
                    have hl : lv_has ls 8 [(6, .int (nI (i9 + 1))), (3, .int (nI ((n9 + i9) + 1))), (0, .ref a), (4, .int (nI x)), (5, .int (nI y))] := lv_sub hl [0, 1, 3, 4, 5] rfl
                    have hmxi := mw_item hOx.2 (show i9 < vt_c OX by omega) (hBX i9 (by omega)).2
                    have hmyi := mw_item hOy.2 (show j9 < vt_c OY by omega) (hBY j9 (by omega)).2
                    have hma2 : ma I2 J I J b0 nv pb np := ma_other (fun k hk => (hss2.1 k (by omega) (by omega)).symm)
                    refine ih2 (i9 + 1) (ss_p P1 (n9 + i9) (vt_s OX i9)) (ss_p Q1 (n9 + i9) (vt_s OY j9)) _ _ H locs ls (by omega) (hss2.push (hmxi.keep hma2 (Nat.le_refl _) (Nat.le_refl _) hp8) (hmyi.keep hma2 (Nat.le_refl _) (Nat.le_refl _) hp8)) ?_ ?_ X V hl
                    · show ss_W _ (n9 + i9 + 1) + 1 = ss_W PX n9 + (vt_ws OX i9 + vt_w (vt_s OX i9)); rw [ss_W_s]; omega
                    · show (ss_A _ _ (n9 + i9 + 1) && _) = _
                      rw [ss_A_s, ← hA2, Bool.and_assoc]
                      have hs : vt_sml (vt_sm 8) OX OY (m9 + 1) i9 = (vt_sm 8 (vt_s OX i9) (vt_s OY j9) && vt_sml (vt_sm 8) OX OY m9 (i9 + 1)) := by
                        rw [vt_sml]; unfold vt_pl
                        rw [if_pos hk, hF]
                        show (if _ then _ else false) = _
                        cases vt_sm 8 (vt_s OX i9) (vt_s OY j9) <;> rfl
                      rw [hs]
              exact loop2 (vt_c OX) 0 PX PY I1 _ _ _ ls (by omega) ⟨hss.1, fun j hj => hss.2 j (by omega)⟩ rfl hA X V hl
          · have c5 : ¬ (vt_ln OX) = (vt_ln OY) := by rw [← gq_eq (a := vt_ln OX) (b := vt_ln OY) (by omega) (by omega)]; exact c5
            refine lv_iconst (v := 0) hx hb d_Mo_same_73 (by decide) ?_
            refine gh_retz hAe C V hr (by first | rfl | decide) hlocks d_Mo_same_74 (by first | decide | omega | (dsimp only; omega)) (by first | decide | omega | (dsimp only; omega)) ?_
            have hfa : vt_sm 8 OX OY = false := by rw [vt_sm8 hOx.2, if_neg (fun z => absurd (ln_sm hOx.2 hOy.2 z.1 z.2.1 z.2.2.2) c5)]
            have hFF : vt_sm 8 X0 Y0 = false := by rw [← hA, hfa, Bool.and_false]
            exact ⟨by rw [hFF]; rfl, I1, X, hss.1⟩
  refine loop 100 1 (fun _ => X0) (fun _ => Y0) _ _ _ _ ls ?_ ?_ ?_ ?_ X V hl
  · show 0 + vt_w X0 ≤ 100; omega
  · show 0 + vt_w X0 ≤ 100; omega
  · refine ⟨fun k h1 h2 => by rw [va_up_n h2, va_up_n h1], fun j hj => ⟨x0, y0, ?_, ?_, hx0, hy0⟩⟩
    · rw [va_up_n (by decide), va_up_s]; simp [upd]; omega
    · rw [va_up_s]; simp [upd]; omega
  · show (true && vt_sm 8 X0 Y0) = _; exact Bool.true_and _
