/-! run of the model. Printed by wip/whole/gen_mo25.py. -/
/-- the constants are the same in every region -/
theorem mc.any {I : mo_I} {J : mo_J} {b nv pb np b2 nv2 pb2 np2 : Nat} (h : mc I J b nv pb np) : mc I J b2 nv2 pb2 np2 := by
  have go : ∀ {g k}, g < 29 → k ≤ 4 → mw I J b nv pb np g (vt_0 k) → mw I J b2 nv2 pb2 np2 g (vt_0 k) := by
    intro g k hg hk hw
    obtain ⟨a1, a2, a3, a4, a5, a6, a7, -⟩ := mv_o.mp hw.1
    exact ⟨mv_o.mpr ⟨⟨Or.inl hg, by omega⟩, a2, a3, a4, a5, a6, a7, fun z => absurd z (by show ¬ 5 ≤ k; omega)⟩, hw.2⟩
  exact ⟨go (by decide) (by decide) h.1, go (by decide) (by decide) h.2.1, go (by decide) (by decide) h.2.2.1, fun j hj => (h.2.2.2 j hj).move (by omega) (fun _ _ => rfl) (fun _ _ => rfl)⟩
/-- how the model's run has ended -/
def mrn (S : Nat → Int32) (I : mo_I) (J : mo_J) (r : List vt × Nat × Nat) (S2 : Nat → Int32) (I2 : mo_I) (J2 : mo_J) : Prop := (S2 49 = nI r.2.1 ∧ S2 48 = nI r.2.2 ∧ S2 51 = nI r.1.length ∧ r.1.length ≤ 16) ∧ (∃ nv2 np2, nv2 ≤ 759 ∧ np2 ≤ 8768 ∧ mout I2 J2 260 nv2 300 np2 r.1) ∧ (∀ k v, (k = 1 ∨ k = 3 ∨ k = 4 ∨ k = 5 ∨ k = 9) → v < 260 → I2 k v = I k v) ∧ (∀ k v, (k = 2 ∨ k = 6 ∨ k = 7 ∨ k = 8) → v < 260 → J2 k v = J k v) ∧ (∀ p, p < 300 → I2 10 p = I 10 p) ∧ S2 0 = 0 ∧ (∀ k, (0 < k ∧ k < 11) ∨ (12 < k ∧ k ≠ 16 ∧ (k < 45 ∨ 51 < k)) → S2 k = S k) ∧ I2 33 = I 33 ∧ I2 34 = I 34 ∧ I2 19 = I 19 ∧ I2 29 = I 29
theorem mrr.mrn {S S1 S2 : Nat → Int32} {I I0 I1 I2 : mo_I} {J J1 J2 : mo_J} {nv np : Nat} {r : List vt × Nat × Nat} (h : mrr 260 300 S1 I1 J1 nv np r S2 I2 J2) (hF : cp_F I J I0 J1 260 nv 300 np) (hnv : 260 ≤ nv) (hnp : 300 ≤ np) (hI : ∀ k, k < 35 ∨ 44 < k → I1 k = I0 k) (h0 : S1 0 = 0) (hS : ∀ k, (0 < k ∧ k < 11) ∨ (12 < k ∧ k ≠ 16 ∧ (k < 45 ∨ 51 < k)) → S1 k = S k) : mrn S I J r S2 I2 J2 := by
  obtain ⟨a1, ⟨nv2, np2, b1, b2, b3, b4, b5⟩, a3, a4, a5, a6, a7, a8⟩ := h
  have hk : ∀ k, k = 33 ∨ k = 34 ∨ k = 19 ∨ k = 29 → I1 k = I k := fun k hk => (hI k (by omega)).trans (hF.2.2.2 k (by omega) (by omega) (by omega) (by omega) (by omega) (by omega) (by omega))
  refine ⟨a1, ⟨nv2, np2, b2, b4, b5⟩, fun k v hk hv => ?_, fun k v hk hv => ?_, fun p hp => ?_, (a4 0 (by omega)).trans h0, fun k hk => (a4 k (by omega)).trans (hS k hk), a5.trans (hk 33 (by omega)), a6.trans (hk 34 (by omega)), a7.trans (hk 19 (by omega)), a8.trans (hk 29 (by omega))⟩
  · rw [a3.1 k v hk ⟨Or.inr ⟨Nat.zero_le _, by omega⟩, by omega⟩, hI k (by omega)]; exact hF.1 k v hk (Or.inl hv)
  · rw [a3.2.1 k v hk ⟨Or.inr ⟨Nat.zero_le _, by omega⟩, by omega⟩]; exact hF.2.1 k v hk (Or.inl hv)
  · rw [a3.2.2 p (Nat.zero_le _) (by omega), hI 10 (by omega)]; exact hF.2.2.1 p (Or.inl hp)
theorem sr_run_lt : ∀ {m φ : Nat} {T : sr}, (sr_run m φ T).2.1 < 4 := by
  intro m
  induction m with
  | zero => intro φ T; show 3 < 4; decide
  | succ m ih =>
    intro φ T
    by_cases hc : φ < sr_c T
    · rw [sr_run_poor hc]; show 2 < 4; decide
    · rcases sr_cases T with ⟨d, x, R, rfl⟩ | ⟨d, rfl⟩ | ⟨d, rfl⟩
      · have hc : ¬ φ < d := hc
        rw [sr_run_cons (by omega)]; exact ih
      · have hc : ¬ φ < d := hc
        rw [sr_run_end (by omega)]; show 0 < 4; decide
      · have hc : ¬ φ < d := hc
        rw [sr_run_fail (by omega)]; show 1 < 4; decide
theorem d_Mo_run_0 : decode b_Mo_run 0 = .ok (.aload_n 0, 1) := by decide +kernel
theorem d_Mo_run_1 : decode b_Mo_run 1 = .ok (.iload_n 1, 1) := by decide +kernel
theorem d_Mo_run_2 : decode b_Mo_run 2 = .ok (.ifCond .lt 10, 3) := by decide +kernel
theorem d_Mo_run_5 : decode b_Mo_run 5 = .ok (.iload_n 1, 1) := by decide +kernel
theorem d_Mo_run_6 : decode b_Mo_run 6 = .ok (.sipush 250, 3) := by decide +kernel
theorem d_Mo_run_9 : decode b_Mo_run 9 = .ok (.if_icmp .le 7, 3) := by decide +kernel
theorem d_Mo_run_12 : decode b_Mo_run 12 = .ok (.iconst 1, 1) := by decide +kernel
theorem d_Mo_run_13 : decode b_Mo_run 13 = .ok (.goto 4, 3) := by decide +kernel
theorem d_Mo_run_16 : decode b_Mo_run 16 = .ok (.iconst 0, 1) := by decide +kernel
theorem d_Mo_run_17 : decode b_Mo_run 17 = .ok (.iconst 0, 1) := by decide +kernel
theorem d_Mo_run_18 : decode b_Mo_run 18 = .ok (.invokevirtual 251, 3) := by decide +kernel
theorem d_Mo_run_21 : decode b_Mo_run 21 = .ok (.ifCond .eq 5, 3) := by decide +kernel
theorem d_Mo_run_24 : decode b_Mo_run 24 = .ok (.iconst 0, 1) := by decide +kernel
theorem d_Mo_run_25 : decode b_Mo_run 25 = .ok (.ireturn, 1) := by decide +kernel
theorem d_Mo_run_26 : decode b_Mo_run 26 = .ok (.aload_n 0, 1) := by decide +kernel
theorem d_Mo_run_27 : decode b_Mo_run 27 = .ok (.aload_n 0, 1) := by decide +kernel
theorem d_Mo_run_28 : decode b_Mo_run 28 = .ok (.getfield 259, 3) := by decide +kernel
theorem d_Mo_run_31 : decode b_Mo_run 31 = .ok (.sipush 260, 3) := by decide +kernel
theorem d_Mo_run_34 : decode b_Mo_run 34 = .ok (.sipush 300, 3) := by decide +kernel
theorem d_Mo_run_37 : decode b_Mo_run 37 = .ok (.invokevirtual 292, 3) := by decide +kernel
theorem d_Mo_run_40 : decode b_Mo_run 40 = .ok (.istore_n 2, 1) := by decide +kernel
theorem d_Mo_run_41 : decode b_Mo_run 41 = .ok (.aload_n 0, 1) := by decide +kernel
theorem d_Mo_run_42 : decode b_Mo_run 42 = .ok (.iload_n 1, 1) := by decide +kernel
theorem d_Mo_run_43 : decode b_Mo_run 43 = .ok (.putfield 271, 3) := by decide +kernel
theorem d_Mo_run_46 : decode b_Mo_run 46 = .ok (.aload_n 0, 1) := by decide +kernel
theorem d_Mo_run_47 : decode b_Mo_run 47 = .ok (.iconst (-1), 1) := by decide +kernel
theorem d_Mo_run_48 : decode b_Mo_run 48 = .ok (.putfield 118, 3) := by decide +kernel
theorem d_Mo_run_51 : decode b_Mo_run 51 = .ok (.aload_n 0, 1) := by decide +kernel
theorem d_Mo_run_52 : decode b_Mo_run 52 = .ok (.iconst 0, 1) := by decide +kernel
theorem d_Mo_run_53 : decode b_Mo_run 53 = .ok (.putfield 296, 3) := by decide +kernel
theorem d_Mo_run_56 : decode b_Mo_run 56 = .ok (.aload_n 0, 1) := by decide +kernel
theorem d_Mo_run_57 : decode b_Mo_run 57 = .ok (.iconst 0, 1) := by decide +kernel
theorem d_Mo_run_58 : decode b_Mo_run 58 = .ok (.putfield 274, 3) := by decide +kernel
theorem d_Mo_run_61 : decode b_Mo_run 61 = .ok (.aload_n 0, 1) := by decide +kernel
theorem d_Mo_run_62 : decode b_Mo_run 62 = .ok (.iconst 0, 1) := by decide +kernel
theorem d_Mo_run_63 : decode b_Mo_run 63 = .ok (.iload_n 2, 1) := by decide +kernel
theorem d_Mo_run_64 : decode b_Mo_run 64 = .ok (.iconst 0, 1) := by decide +kernel
theorem d_Mo_run_65 : decode b_Mo_run 65 = .ok (.invokevirtual 299, 3) := by decide +kernel
theorem d_Mo_run_68 : decode b_Mo_run 68 = .ok (.aload_n 0, 1) := by decide +kernel
theorem d_Mo_run_69 : decode b_Mo_run 69 = .ok (.getfield 118, 3) := by decide +kernel
theorem d_Mo_run_72 : decode b_Mo_run 72 = .ok (.ifCond .ge 105, 3) := by decide +kernel
theorem d_Mo_run_75 : decode b_Mo_run 75 = .ok (.aload_n 0, 1) := by decide +kernel
theorem d_Mo_run_76 : decode b_Mo_run 76 = .ok (.getfield 274, 3) := by decide +kernel
theorem d_Mo_run_79 : decode b_Mo_run 79 = .ok (.ifCond .le 21, 3) := by decide +kernel
theorem d_Mo_run_82 : decode b_Mo_run 82 = .ok (.aload_n 0, 1) := by decide +kernel
theorem d_Mo_run_83 : decode b_Mo_run 83 = .ok (.aload_n 0, 1) := by decide +kernel
theorem d_Mo_run_84 : decode b_Mo_run 84 = .ok (.getfield 115, 3) := by decide +kernel
theorem d_Mo_run_87 : decode b_Mo_run 87 = .ok (.aload_n 0, 1) := by decide +kernel
theorem d_Mo_run_88 : decode b_Mo_run 88 = .ok (.getfield 274, 3) := by decide +kernel
theorem d_Mo_run_91 : decode b_Mo_run 91 = .ok (.iconst 1, 1) := by decide +kernel
theorem d_Mo_run_92 : decode b_Mo_run 92 = .ok (.isub, 1) := by decide +kernel
theorem d_Mo_run_93 : decode b_Mo_run 93 = .ok (.iaload, 1) := by decide +kernel
theorem d_Mo_run_94 : decode b_Mo_run 94 = .ok (.invokevirtual 303, 3) := by decide +kernel
theorem d_Mo_run_97 : decode b_Mo_run 97 = .ok (.goto (-29), 3) := by decide +kernel
theorem d_Mo_run_100 : decode b_Mo_run 100 = .ok (.aload_n 0, 1) := by decide +kernel
theorem d_Mo_run_101 : decode b_Mo_run 101 = .ok (.getfield 277, 3) := by decide +kernel
theorem d_Mo_run_104 : decode b_Mo_run 104 = .ok (.iconst 1, 1) := by decide +kernel
theorem d_Mo_run_105 : decode b_Mo_run 105 = .ok (.if_icmp .ne 52, 3) := by decide +kernel
theorem d_Mo_run_108 : decode b_Mo_run 108 = .ok (.aload_n 0, 1) := by decide +kernel
theorem d_Mo_run_109 : decode b_Mo_run 109 = .ok (.getfield 121, 3) := by decide +kernel
theorem d_Mo_run_112 : decode b_Mo_run 112 = .ok (.aload_n 0, 1) := by decide +kernel
theorem d_Mo_run_113 : decode b_Mo_run 113 = .ok (.getfield 296, 3) := by decide +kernel
theorem d_Mo_run_116 : decode b_Mo_run 116 = .ok (.aload_n 0, 1) := by decide +kernel
theorem d_Mo_run_117 : decode b_Mo_run 117 = .ok (.getfield 286, 3) := by decide +kernel
theorem d_Mo_run_120 : decode b_Mo_run 120 = .ok (.iastore, 1) := by decide +kernel
theorem d_Mo_run_121 : decode b_Mo_run 121 = .ok (.aload_n 0, 1) := by decide +kernel
theorem d_Mo_run_122 : decode b_Mo_run 122 = .ok (.dup, 1) := by decide +kernel
theorem d_Mo_run_123 : decode b_Mo_run 123 = .ok (.getfield 296, 3) := by decide +kernel
theorem d_Mo_run_126 : decode b_Mo_run 126 = .ok (.iconst 1, 1) := by decide +kernel
theorem d_Mo_run_127 : decode b_Mo_run 127 = .ok (.iadd, 1) := by decide +kernel
theorem d_Mo_run_128 : decode b_Mo_run 128 = .ok (.putfield 296, 3) := by decide +kernel
theorem d_Mo_run_131 : decode b_Mo_run 131 = .ok (.aload_n 0, 1) := by decide +kernel
theorem d_Mo_run_132 : decode b_Mo_run 132 = .ok (.aload_n 0, 1) := by decide +kernel
theorem d_Mo_run_133 : decode b_Mo_run 133 = .ok (.getfield 296, 3) := by decide +kernel
theorem d_Mo_run_136 : decode b_Mo_run 136 = .ok (.bipush 16, 2) := by decide +kernel
theorem d_Mo_run_138 : decode b_Mo_run 138 = .ok (.if_icmp .ne 7, 3) := by decide +kernel
theorem d_Mo_run_141 : decode b_Mo_run 141 = .ok (.iconst 3, 1) := by decide +kernel
theorem d_Mo_run_142 : decode b_Mo_run 142 = .ok (.goto 4, 3) := by decide +kernel
theorem d_Mo_run_145 : decode b_Mo_run 145 = .ok (.iconst (-1), 1) := by decide +kernel
theorem d_Mo_run_146 : decode b_Mo_run 146 = .ok (.putfield 118, 3) := by decide +kernel
theorem d_Mo_run_149 : decode b_Mo_run 149 = .ok (.aload_n 0, 1) := by decide +kernel
theorem d_Mo_run_150 : decode b_Mo_run 150 = .ok (.iconst 0, 1) := by decide +kernel
theorem d_Mo_run_151 : decode b_Mo_run 151 = .ok (.invokevirtual 283, 3) := by decide +kernel
theorem d_Mo_run_154 : decode b_Mo_run 154 = .ok (.goto (-86), 3) := by decide +kernel
theorem d_Mo_run_157 : decode b_Mo_run 157 = .ok (.aload_n 0, 1) := by decide +kernel
theorem d_Mo_run_158 : decode b_Mo_run 158 = .ok (.aload_n 0, 1) := by decide +kernel
theorem d_Mo_run_159 : decode b_Mo_run 159 = .ok (.getfield 277, 3) := by decide +kernel
theorem d_Mo_run_162 : decode b_Mo_run 162 = .ok (.iconst 2, 1) := by decide +kernel
theorem d_Mo_run_163 : decode b_Mo_run 163 = .ok (.if_icmp .ne 7, 3) := by decide +kernel
theorem d_Mo_run_166 : decode b_Mo_run 166 = .ok (.iconst 0, 1) := by decide +kernel
theorem d_Mo_run_167 : decode b_Mo_run 167 = .ok (.goto 4, 3) := by decide +kernel
theorem d_Mo_run_170 : decode b_Mo_run 170 = .ok (.iconst 1, 1) := by decide +kernel
theorem d_Mo_run_171 : decode b_Mo_run 171 = .ok (.putfield 118, 3) := by decide +kernel
theorem d_Mo_run_174 : decode b_Mo_run 174 = .ok (.goto (-106), 3) := by decide +kernel
theorem d_Mo_run_177 : decode b_Mo_run 177 = .ok (.aload_n 0, 1) := by decide +kernel
theorem d_Mo_run_178 : decode b_Mo_run 178 = .ok (.getfield 296, 3) := by decide +kernel
theorem d_Mo_run_181 : decode b_Mo_run 181 = .ok (.ireturn, 1) := by decide +kernel
set_option maxHeartbeats 4000000 in
set_option maxRecDepth 100000 in
theorem c_Mo_run0 (l : Launch) (E : gh_E) (sz : Nat) (f : gh_F) (a : Nat) (ad : Nat → Nat) (S : Nat → Int32) (I : Nat → Nat → Int32) (J : Nat → Nat → Int64) (x : Int32) (hX : mo_R E f a ad S I J) (hx2 : 0 ≤ x → ¬ x ≤ 250) : gh_M l y_Mo_run b_Mo_run 3 (some .int) E sz [.ref a, .int x] f { frames := 14, cells := 0, slots := 0, locals := 420 } (fun r g => r = some (.int 0) ∧ mo_X E f g a ad (va_up S 0 1) I J) := by
  refine gh_open (by decide) (Nat.le_of_ble_eq_true rfl) ?_
  intro p e s m args below meth c A ls hAe C V hr hlocks hname hl
  have hx := C.1
  have hb := C.2.1
  have hl : lv_has ls 3 [(0, .ref a), (1, .int x)] := hl
  have X : mo_X E f f a ad S I J := ⟨hX, gh_fr.rf⟩
  refine lv_aload_n hx hb d_Mo_run_0 rfl (lv_at hl 0 rfl) ?_
  refine lv_iload_n hx hb d_Mo_run_1 rfl (lv_at hl 1 rfl) ?_
  refine lv_if_lt (tgt := 12) hx hb d_Mo_run_2 (by decide) (fun c1 => ?_) (fun c1 => ?_)
  · refine lv_iconst (v := 1) hx hb d_Mo_run_12 (by decide) ?_
    refine lv_goto (tgt := 17) hx hb d_Mo_run_13 (by decide) ?_
    refine lv_iconst (v := 0) hx hb d_Mo_run_17 (by decide) ?_
    refine W.eq (g2 := F0 m 18 ls [.int (gh_bi false), .int (gh_bi true), .ref a]) rfl ?_
    refine gh_callV C V hl.1 m_Mo_throwing l_Mo_251 (c_Mo_throwing l E _ _ a ad _ _ _ true false X.1) rfl X.1.1 gc_Mo ⟨by first | decide | omega | (dsimp only; omega), by first | decide | omega | (dsimp only; omega)⟩ ⟨by first | decide | omega | (dsimp only; omega), by first | decide | omega | (dsimp only; omega)⟩ (Nat.le_of_ble_eq_true rfl) rfl d_Mo_run_18 (fun r z9 H locs hp V1 => ?_)
    obtain ⟨rfl, X2⟩ := hp
    have X := X.then X2
    have V := V1
    refine W.eq (g2 := F0 m 21 ls [.int (gh_bi true)]) rfl ?_
    refine lv_if_eq (tgt := 26) hx hb d_Mo_run_21 (by decide) (fun c2 => absurd c2 (by decide)) (fun c2 => ?_)
    refine lv_iconst (v := 0) hx hb d_Mo_run_24 (by decide) ?_
    refine gh_reti hAe C V hr hlocks d_Mo_run_25 (by first | decide | omega | (dsimp only; omega)) (by first | decide | omega | (dsimp only; omega)) ?_
    exact ⟨rfl, X⟩
  · refine lv_iload_n hx hb d_Mo_run_5 rfl (lv_at hl 1 rfl) ?_
    refine lv_sipush (v := 250) hx hb d_Mo_run_6 (by decide) ?_
    refine lv_icmp_le (tgt := 16) hx hb d_Mo_run_9 (by decide) (fun c3 => absurd c3 (hx2 (by first | exact c1 | exact lg_ge0 c1 | exact Int32.not_lt.mp c1))) (fun c3 => ?_)
    refine lv_iconst (v := 1) hx hb d_Mo_run_12 (by decide) ?_
    refine lv_goto (tgt := 17) hx hb d_Mo_run_13 (by decide) ?_
    refine lv_iconst (v := 0) hx hb d_Mo_run_17 (by decide) ?_
    refine W.eq (g2 := F0 m 18 ls [.int (gh_bi false), .int (gh_bi true), .ref a]) rfl ?_
    refine gh_callV C V hl.1 m_Mo_throwing l_Mo_251 (c_Mo_throwing l E _ _ a ad _ _ _ true false X.1) rfl X.1.1 gc_Mo ⟨by first | decide | omega | (dsimp only; omega), by first | decide | omega | (dsimp only; omega)⟩ ⟨by first | decide | omega | (dsimp only; omega), by first | decide | omega | (dsimp only; omega)⟩ (Nat.le_of_ble_eq_true rfl) rfl d_Mo_run_18 (fun r z9 H locs hp V1 => ?_)
    obtain ⟨rfl, X2⟩ := hp
    have X := X.then X2
    have V := V1
    refine W.eq (g2 := F0 m 21 ls [.int (gh_bi true)]) rfl ?_
    refine lv_if_eq (tgt := 26) hx hb d_Mo_run_21 (by decide) (fun c4 => absurd c4 (by decide)) (fun c4 => ?_)
    refine lv_iconst (v := 0) hx hb d_Mo_run_24 (by decide) ?_
    refine gh_reti hAe C V hr hlocks d_Mo_run_25 (by first | decide | omega | (dsimp only; omega)) (by first | decide | omega | (dsimp only; omega)) ?_
    exact ⟨rfl, X⟩
set_option maxHeartbeats 4000000 in
set_option maxRecDepth 100000 in
theorem c_Mo_run (l : Launch) (E : gh_E) (sz : Nat) (f : gh_F) (a : Nat) (ad : Nat → Nat) (S : Nat → Int32) (I : Nat → Nat → Int32) (J : Nat → Nat → Int64) (φ dv nvd npd N : Nat) (cb bg : Nat → Nat) (O : vt) (hX : mo_R E f a ad S I J) (hφ : φ ≤ 250) (hS17 : S 17 = nI dv) (hO : mw I J 29 nvd 0 npd dv O) (hc0 : mc I J 29 nvd 0 npd) (hnvd : nvd ≤ 260) (hnpd : npd ≤ 300) (hN : N ≤ 60) (hq : qn cb bg N 13 0 N) (h33 : ∀ j, j < 60 → I 33 j = nI (cb j)) (h34 : ∀ j, j < 180 → I 34 j = nI (bg j)) : gh_M l y_Mo_run b_Mo_run 3 (some .int) E sz [.ref a, .int (nI φ)] f { frames := 14, cells := 0, slots := 0, locals := 420 } (fun r g => r = some (.int (nI (sr_run 16 φ (sr_D cb bg 20 0 O (vt_0 0))).1.length)) ∧ ∃ S2 I2 J2, mo_X E f g a ad S2 I2 J2 ∧ mrn S I J (sr_run 16 φ (sr_D cb bg 20 0 O (vt_0 0))) S2 I2 J2) := by
  refine gh_open (by decide) (Nat.le_of_ble_eq_true rfl) ?_
  intro p e s m args below meth c A ls hAe C V hr hlocks hname hl
  have hx := C.1
  have hb := C.2.1
  have hl : lv_has ls 3 [(0, .ref a), (1, .int (nI φ))] := hl
  have X : mo_X E f f a ad S I J := ⟨hX, gh_fr.rf⟩
  refine lv_aload_n hx hb d_Mo_run_0 rfl (lv_at hl 0 rfl) ?_
  refine lv_iload_n hx hb d_Mo_run_1 rfl (lv_at hl 1 rfl) ?_
  refine lv_if_lt (tgt := 12) hx hb d_Mo_run_2 (by decide) (fun c1 => absurd c1 (nI_pos (by omega))) (fun c1 => ?_)
  refine lv_iload_n hx hb d_Mo_run_5 rfl (lv_at hl 1 rfl) ?_
  refine lv_sipush (v := 250) hx hb d_Mo_run_6 (by decide) ?_
  refine lv_icmp_le (tgt := 16) hx hb d_Mo_run_9 (by decide) (fun c2 => ?_) (fun c2 => absurd (nI_le (b := 250) (by omega) (by decide)) c2)
  refine lv_iconst (v := 0) hx hb d_Mo_run_16 (by decide) ?_
  refine lv_iconst (v := 0) hx hb d_Mo_run_17 (by decide) ?_
  refine W.eq (g2 := F0 m 18 ls [.int (gh_bi false), .int (gh_bi false), .ref a]) rfl ?_
  refine gh_callV C V hl.1 m_Mo_throwing l_Mo_251 (c_Mo_throwing l E _ _ a ad _ _ _ false false X.1) rfl X.1.1 gc_Mo ⟨by first | decide | omega | (dsimp only; omega), by first | decide | omega | (dsimp only; omega)⟩ ⟨by first | decide | omega | (dsimp only; omega), by first | decide | omega | (dsimp only; omega)⟩ (Nat.le_of_ble_eq_true rfl) rfl d_Mo_run_18 (fun r z9 H locs hp V1 => ?_)
  obtain ⟨rfl, X2⟩ := hp
  have X := X.then X2
  have V := V1
  refine W.eq (g2 := F0 m 21 ls [.int (gh_bi false)]) rfl ?_
  refine lv_if_eq (tgt := 26) hx hb d_Mo_run_21 (by decide) (fun c3 => ?_) (fun c3 => absurd (by decide) c3)
  refine lv_aload_n hx hb d_Mo_run_26 rfl (lv_at hl 0 rfl) ?_
  refine lv_aload_n hx hb d_Mo_run_27 rfl (lv_at hl 0 rfl) ?_
  refine mo_getS (v := nI dv) C V X 17 (by decide) (by decide) (by first | rfl | exact hS17) f_Mo_259 rfl d_Mo_run_28 ?_
  refine lv_sipush (v := 260) hx hb d_Mo_run_31 (by decide) ?_
  refine lv_sipush (v := 300) hx hb d_Mo_run_34 (by decide) ?_
  refine W.eq (g2 := F0 m 37 ls [.int (nI 300), .int (nI 260), .int (nI dv), .ref a]) rfl ?_
  refine gh_callV C V hl.1 m_Mo_copied l_Mo_292 (c_Mo_copied l E _ _ a ad _ _ _ 29 nvd 0 npd 260 300 dv O X.1 hO hc0 (by decide) (by decide) (by decide) (fun q hq => by rcases hq.1 with h | h <;> omega) (fun q h1 h2 => by omega)) rfl X.1.1 gc_Mo ⟨by first | decide | omega | (dsimp only; omega), by first | decide | omega | (dsimp only; omega)⟩ ⟨by first | decide | omega | (dsimp only; omega), by first | decide | omega | (dsimp only; omega)⟩ (Nat.le_of_ble_eq_true rfl) rfl d_Mo_run_37 (fun r z9 H locs hp V1 => ?_)
  obtain ⟨root, rfl, S2, I2, J2, X2, nv, np, hw2, hc2, ⟨n1, n2, n3, n4⟩, hF, h11, h12, hS2⟩ := hp
  have X := X.then X2
  have V := V1
  refine W.eq (g2 := F0 m 40 ls [.int (nI root)]) rfl ?_
  refine lv_istore_n hx hb d_Mo_run_40 rfl hl (by decide) rfl (fun ls hl => ?_)
  have hl : lv_has ls 3 [(2, .int (nI root)), (0, .ref a), (1, .int (nI φ))] := hl
  refine lv_aload_n hx hb d_Mo_run_41 rfl (lv_at hl 1 rfl) ?_
  refine lv_iload_n hx hb d_Mo_run_42 rfl (lv_at hl 2 rfl) ?_
  refine mo_putS C V X 48 (by decide) (by decide) f_Mo_271 rfl rfl rfl d_Mo_run_43 (fun f1 H locs V1 X1 => ?_)
  clear V X
  have V := V1
  have X := X1
  clear V1 X1
  refine lv_aload_n hx hb d_Mo_run_46 rfl (lv_at hl 1 rfl) ?_
  refine lv_iconst (v := (-1)) hx hb d_Mo_run_47 (by decide) ?_
  refine mo_putS C V X 49 (by decide) (by decide) f_Mo_118 rfl rfl rfl d_Mo_run_48 (fun f1 H locs V1 X1 => ?_)
  clear V X
  have V := V1
  have X := X1
  clear V1 X1
  refine lv_aload_n hx hb d_Mo_run_51 rfl (lv_at hl 1 rfl) ?_
  refine lv_iconst (v := 0) hx hb d_Mo_run_52 (by decide) ?_
  refine mo_putS C V X 51 (by decide) (by decide) f_Mo_296 rfl rfl rfl d_Mo_run_53 (fun f1 H locs V1 X1 => ?_)
  clear V X
  have V := V1
  have X := X1
  clear V1 X1
  refine lv_aload_n hx hb d_Mo_run_56 rfl (lv_at hl 1 rfl) ?_
  refine lv_iconst (v := 0) hx hb d_Mo_run_57 (by decide) ?_
  refine mo_putS C V X 45 (by decide) (by decide) f_Mo_274 rfl rfl rfl d_Mo_run_58 (fun f1 H locs V1 X1 => ?_)
  clear V X
  have V := V1
  have X := X1
  clear V1 X1
  refine lv_aload_n hx hb d_Mo_run_61 rfl (lv_at hl 1 rfl) ?_
  refine lv_iconst (v := 0) hx hb d_Mo_run_62 (by decide) ?_
  refine lv_iload_n hx hb d_Mo_run_63 rfl (lv_at hl 0 rfl) ?_
  refine lv_iconst (v := 0) hx hb d_Mo_run_64 (by decide) ?_
  refine W.eq (g2 := F0 m 65 ls [.int 0, .int (nI root), .int (nI 0), .ref a]) rfl ?_
  obtain ⟨S3, hS3⟩ : ∃ S3 : Nat → Int32, S3 = va_up (va_up (va_up (va_up S2 48 (nI φ)) 49 ((-1))) 51 0) 45 0 := ⟨_, rfl⟩
  rw [← hS3] at X
  have e48 : S3 48 = nI φ := by rw [hS3]; simp [va_up]
  have e49 : S3 49 = -1 := by rw [hS3]; simp [va_up]
  have e45 : S3 45 = nI 0 := by rw [hS3]; simp [va_up]; rfl
  have e51 : S3 51 = nI 0 := by rw [hS3]; simp [va_up]; rfl
  have eS : ∀ k, k ≠ 45 → k ≠ 48 → k ≠ 49 → k ≠ 51 → S3 k = S2 k := fun k a1 a2 a3 a4 => by rw [hS3, va_up_n a1, va_up_n a4, va_up_n a3, va_up_n a2]
  have eT : ∀ k, (0 < k ∧ k < 11) ∨ (12 < k ∧ k ≠ 16 ∧ (k < 45 ∨ 51 < k)) → S3 k = S k := fun k hk => by rw [eS k (by omega) (by omega) (by omega) (by omega), hS2 k (by omega) (by omega), va_up_n (by omega)]
  have e0 : S3 0 = 0 := by rw [eS 0 (by decide) (by decide) (by decide) (by decide), hS2 0 (by decide) (by decide), va_up_s]; rfl
  obtain ⟨RW, hRW⟩ : ∃ RW : (Nat → Int32) → mo_I → mo_J → Prop, RW = (fun S1 I1 J1 => ∀ (f1 : gh_F) (H : Heap) (locs : List Loc) (ls : Array Slot), mo_X E f f1 a ad S1 I1 J1 → gh_V E A f1 s H locs → lv_has ls 3 [(0, .ref a), (1, .int (nI φ)), (2, .int (nI root))] → W p l e { frames := 14, cells := 0, slots := 0, locals := 420 } s m args below meth c H locs 0 0 (MQ below (gh_Q E f (fun r g => r = some (.int (nI (sr_run 16 φ (sr_D cb bg 20 0 O (vt_0 0))).1.length)) ∧ ∃ S2 I2 J2, mo_X E f g a ad S2 I2 J2 ∧ mrn S I J (sr_run 16 φ (sr_D cb bg 20 0 O (vt_0 0))) S2 I2 J2)) args s 0 0 A) (F0 m 68 ls [])) := ⟨_, rfl⟩
  have hcl : ms_cl l E a ad RW := by
    rw [hRW]
    intro S1 I1 J1 wt cp Q h49 h45 hw16 hc60 hpath hM hQ f1 H locs ls X V hl
    have hS49 := h49
    have hS45 := h45
    refine lv_aload_n hx hb d_Mo_run_68 rfl (lv_at hl 0 rfl) ?_
    refine mo_getS (v := -1) C V X 49 (by decide) (by decide) (by first | rfl | exact hS49) f_Mo_118 rfl d_Mo_run_69 ?_
    refine lv_if_ge (tgt := 177) hx hb d_Mo_run_72 (by decide) (fun c4 => absurd c4 (by decide)) (fun c4 => ?_)
    refine lv_aload_n hx hb d_Mo_run_75 rfl (lv_at hl 0 rfl) ?_
    refine mo_getS (v := nI (wt + 1)) C V X 45 (by decide) (by decide) (by first | rfl | exact hS45) f_Mo_274 rfl d_Mo_run_76 ?_
    refine lv_if_le (tgt := 100) hx hb d_Mo_run_79 (by decide) (fun c5 => absurd c5 (nI_npos (by omega))) (fun c5 => ?_)
    refine lv_aload_n hx hb d_Mo_run_82 rfl (lv_at hl 0 rfl) ?_
    refine lv_aload_n hx hb d_Mo_run_83 rfl (lv_at hl 0 rfl) ?_
    refine mo_getA C V X 44 (by decide) (by decide) f_Mo_115 rfl d_Mo_run_84 ?_
    refine lv_aload_n hx hb d_Mo_run_87 rfl (lv_at hl 0 rfl) ?_
    refine mo_getS (v := nI (wt + 1)) C V X 45 (by decide) (by decide) (by first | rfl | exact hS45) f_Mo_274 rfl d_Mo_run_88 ?_
    refine lv_iconst (v := 1) hx hb d_Mo_run_91 (by decide) ?_
    refine gn_isub (a := wt + 1) (b := 1) hx hb (by omega) d_Mo_run_92 ?_
    refine mo_ild (k := 44) (i := (wt + 1) - 1) (n := 16) C V X (by decide) (by decide) rfl (by omega) (by decide) d_Mo_run_93 ?_
    rw [show I1 44 ((wt + 1) - 1) = nI cp from hpath]
    refine gh_callV C V hl.1 m_Mo_act l_Mo_303 (hM _ _ X.1) rfl X.1.1 gc_Mo ⟨by first | decide | omega | (dsimp only; omega), by first | decide | omega | (dsimp only; omega)⟩ ⟨by first | decide | omega | (dsimp only; omega), by first | decide | omega | (dsimp only; omega)⟩ (Nat.le_of_ble_eq_true rfl) rfl d_Mo_run_94 (fun r z9 H locs hp V1 => ?_)
    obtain ⟨rfl, hQ1⟩ := hp
    obtain ⟨S5, I5, J5, X5, h5⟩ := hQ _ _ hQ1
    have X := X.then X5
    have V := V1
    refine W.eq (g2 := F0 m 97 ls []) rfl ?_
    refine lv_goto (tgt := 68) hx hb d_Mo_run_97 (by decide) ?_
    have hl : lv_has ls 3 [(0, .ref a), (1, .int (nI φ)), (2, .int (nI root))] := lv_sub hl [0, 1, 2] rfl
    exact h5 _ _ _ ls X V hl
  have htp : ms_tp RW := by
    rw [hRW]
    refine ⟨?_, ?_⟩
    · intro S1 I1 J1 k4 u4 h49 h45 h46 h47 h51 hk16 hk f1 H locs ls X V hl
      have hS49 := h49
      have hS45 := h45
      have hS46 := h46
      have hS47 := h47
      have hS51 := h51
      refine lv_aload_n hx hb d_Mo_run_68 rfl (lv_at hl 0 rfl) ?_
      refine mo_getS (v := -1) C V X 49 (by decide) (by decide) (by first | rfl | exact hS49) f_Mo_118 rfl d_Mo_run_69 ?_
      refine lv_if_ge (tgt := 177) hx hb d_Mo_run_72 (by decide) (fun c6 => absurd c6 (by decide)) (fun c6 => ?_)
      refine lv_aload_n hx hb d_Mo_run_75 rfl (lv_at hl 0 rfl) ?_
      refine mo_getS (v := nI 0) C V X 45 (by decide) (by decide) (by first | rfl | exact hS45) f_Mo_274 rfl d_Mo_run_76 ?_
      refine lv_if_le (tgt := 100) hx hb d_Mo_run_79 (by decide) (fun c7 => ?_) (fun c7 => absurd (by decide) c7)
      refine lv_aload_n hx hb d_Mo_run_100 rfl (lv_at hl 0 rfl) ?_
      refine mo_getS (v := 1) C V X 46 (by decide) (by decide) (by first | rfl | exact hS46) f_Mo_277 rfl d_Mo_run_101 ?_
      refine lv_iconst (v := 1) hx hb d_Mo_run_104 (by decide) ?_
      refine lv_icmp_ne (tgt := 157) hx hb d_Mo_run_105 (by decide) (fun c8 => absurd (by decide) c8) (fun c8 => ?_)
      refine lv_aload_n hx hb d_Mo_run_108 rfl (lv_at hl 0 rfl) ?_
      refine mo_getA C V X 50 (by decide) (by decide) f_Mo_121 rfl d_Mo_run_109 ?_
      refine lv_aload_n hx hb d_Mo_run_112 rfl (lv_at hl 0 rfl) ?_
      refine mo_getS (v := nI k4) C V X 51 (by decide) (by decide) (by first | rfl | exact hS51) f_Mo_296 rfl d_Mo_run_113 ?_
      refine lv_aload_n hx hb d_Mo_run_116 rfl (lv_at hl 0 rfl) ?_
      refine mo_getS (v := nI u4) C V X 47 (by decide) (by decide) (by first | rfl | exact hS47) f_Mo_286 rfl d_Mo_run_117 ?_
      refine mo_ist (k := 50) (i := k4) (n := 16) C V X (by decide) (by decide) rfl (by omega) (by decide) d_Mo_run_120 (fun f1 H locs V1 X1 => ?_)
      clear V X
      have V := V1
      have X := X1
      clear V1 X1
      refine lv_aload_n hx hb d_Mo_run_121 rfl (lv_at hl 0 rfl) ?_
      refine lv_dup hx hb d_Mo_run_122 rfl ?_
      refine mo_getS (v := nI k4) C V X 51 (by decide) (by decide) (by first | rfl | exact hS51) f_Mo_296 rfl d_Mo_run_123 ?_
      refine lv_iconst (v := 1) hx hb d_Mo_run_126 (by decide) ?_
      refine gn_iadd (a := k4) (b := 1) hx hb d_Mo_run_127 ?_
      refine mo_putS C V X 51 (by decide) (by decide) f_Mo_296 rfl rfl rfl d_Mo_run_128 (fun f1 H locs V1 X1 => ?_)
      clear V X
      have V := V1
      have X := X1
      clear V1 X1
      refine lv_aload_n hx hb d_Mo_run_131 rfl (lv_at hl 0 rfl) ?_
      refine lv_aload_n hx hb d_Mo_run_132 rfl (lv_at hl 0 rfl) ?_
      refine mo_getS (v := nI (k4 + 1)) C V X 51 (by decide) (by decide) (by first | rfl | exact hS51) f_Mo_296 rfl d_Mo_run_133 ?_
      refine lv_bipush (v := 16) hx hb d_Mo_run_136 (by decide) ?_
      by_cases h16 : k4 + 1 = 16
      · refine lv_icmp_ne (tgt := 145) hx hb d_Mo_run_138 (by decide) (fun c9 => absurd (by rw [h16]; rfl) c9) (fun c9 => ?_)
        refine lv_iconst (v := 3) hx hb d_Mo_run_141 (by decide) ?_
        refine lv_goto (tgt := 146) hx hb d_Mo_run_142 (by decide) ?_
        refine mo_putS C V X 49 (by decide) (by decide) f_Mo_118 rfl rfl rfl d_Mo_run_146 (fun f1 H locs V1 X1 => ?_)
        clear V X
        have V := V1
        have X := X1
        clear V1 X1
        refine lv_aload_n hx hb d_Mo_run_149 rfl (lv_at hl 0 rfl) ?_
        refine lv_iconst (v := 0) hx hb d_Mo_run_150 (by decide) ?_
        refine gh_callV C V hl.1 m_Mo_ask l_Mo_283 (c_Mo_ask l E _ _ a ad _ _ _ 0 0 X.1 (by simp [va_up]; exact h45) (by decide)) rfl X.1.1 gc_Mo ⟨by first | decide | omega | (dsimp only; omega), by first | decide | omega | (dsimp only; omega)⟩ ⟨by first | decide | omega | (dsimp only; omega), by first | decide | omega | (dsimp only; omega)⟩ (Nat.le_of_ble_eq_true rfl) rfl d_Mo_run_151 (fun r z9 H locs hp V1 => ?_)
        obtain ⟨rfl, X2⟩ := hp
        have X := X.then X2
        have V := V1
        refine W.eq (g2 := F0 m 154 ls []) rfl ?_
        have h5 := hk _ _ (show mt_v S1 I1 k4 u4 (va_up (va_up (va_up (va_up S1 51 (nI (k4 + 1))) 49 3) 45 (nI (0 + 1))) 46 0) (va_up (va_up I1 50 (upd (I1 50) k4 (nI u4))) 44 (upd ((va_up I1 50 (upd (I1 50) k4 (nI u4))) 44) 0 0)) from ⟨⟨by rw [va_up_n (by decide), va_up_s], va_up_s, by rw [va_up_n (by decide), va_up_n (by decide), va_up_n (by decide), va_up_s], by rw [va_up_n (by decide), va_up_n (by decide), va_up_s, if_pos h16]⟩, by rw [va_up_n (by decide), va_up_s], by rw [va_up_s, va_up_n (by decide)], fun j a1 a2 a3 a4 => by rw [va_up_n a2, va_up_n a1, va_up_n a3, va_up_n a4], fun j a1 a2 => by rw [va_up_n a1, va_up_n a2]⟩)
        refine lv_goto (tgt := 68) hx hb d_Mo_run_154 (by decide) ?_
        have hl : lv_has ls 3 [(0, .ref a), (1, .int (nI φ)), (2, .int (nI root))] := lv_sub hl [0, 1, 2] rfl
        exact h5 _ _ _ ls X V hl
      · refine lv_icmp_ne (tgt := 145) hx hb d_Mo_run_138 (by decide) (fun c10 => ?_) (fun c10 => absurd c10 (fun z => absurd ((nI_eq (b := 16) (by omega) (by decide)).mp z) h16))
        refine lv_iconst (v := (-1)) hx hb d_Mo_run_145 (by decide) ?_
        refine mo_putS C V X 49 (by decide) (by decide) f_Mo_118 rfl rfl rfl d_Mo_run_146 (fun f1 H locs V1 X1 => ?_)
        clear V X
        have V := V1
        have X := X1
        clear V1 X1
        refine lv_aload_n hx hb d_Mo_run_149 rfl (lv_at hl 0 rfl) ?_
        refine lv_iconst (v := 0) hx hb d_Mo_run_150 (by decide) ?_
        refine gh_callV C V hl.1 m_Mo_ask l_Mo_283 (c_Mo_ask l E _ _ a ad _ _ _ 0 0 X.1 (by simp [va_up]; exact h45) (by decide)) rfl X.1.1 gc_Mo ⟨by first | decide | omega | (dsimp only; omega), by first | decide | omega | (dsimp only; omega)⟩ ⟨by first | decide | omega | (dsimp only; omega), by first | decide | omega | (dsimp only; omega)⟩ (Nat.le_of_ble_eq_true rfl) rfl d_Mo_run_151 (fun r z9 H locs hp V1 => ?_)
        obtain ⟨rfl, X2⟩ := hp
        have X := X.then X2
        have V := V1
        refine W.eq (g2 := F0 m 154 ls []) rfl ?_
        have h5 := hk _ _ (show mt_v S1 I1 k4 u4 (va_up (va_up (va_up (va_up S1 51 (nI (k4 + 1))) 49 (-1)) 45 (nI (0 + 1))) 46 0) (va_up (va_up I1 50 (upd (I1 50) k4 (nI u4))) 44 (upd ((va_up I1 50 (upd (I1 50) k4 (nI u4))) 44) 0 0)) from ⟨⟨by rw [va_up_n (by decide), va_up_s], va_up_s, by rw [va_up_n (by decide), va_up_n (by decide), va_up_n (by decide), va_up_s], by rw [va_up_n (by decide), va_up_n (by decide), va_up_s, if_neg h16]⟩, by rw [va_up_n (by decide), va_up_s], by rw [va_up_s, va_up_n (by decide)], fun j a1 a2 a3 a4 => by rw [va_up_n a2, va_up_n a1, va_up_n a3, va_up_n a4], fun j a1 a2 => by rw [va_up_n a1, va_up_n a2]⟩)
        refine lv_goto (tgt := 68) hx hb d_Mo_run_154 (by decide) ?_
        have hl : lv_has ls 3 [(0, .ref a), (1, .int (nI φ)), (2, .int (nI root))] := lv_sub hl [0, 1, 2] rfl
        exact h5 _ _ _ ls X V hl
    · intro S1 I1 J1 h49 h45 h46 hk f1 H locs ls X V hl
      have hS49 := h49
      have hS45 := h45
      rcases h46 with h46 | h46
      · have hS46 := h46
        rw [h46, if_pos rfl] at hk
        refine lv_aload_n hx hb d_Mo_run_68 rfl (lv_at hl 0 rfl) ?_
        refine mo_getS (v := -1) C V X 49 (by decide) (by decide) (by first | rfl | exact hS49) f_Mo_118 rfl d_Mo_run_69 ?_
        refine lv_if_ge (tgt := 177) hx hb d_Mo_run_72 (by decide) (fun c11 => absurd c11 (by decide)) (fun c11 => ?_)
        refine lv_aload_n hx hb d_Mo_run_75 rfl (lv_at hl 0 rfl) ?_
        refine mo_getS (v := nI 0) C V X 45 (by decide) (by decide) (by first | rfl | exact hS45) f_Mo_274 rfl d_Mo_run_76 ?_
        refine lv_if_le (tgt := 100) hx hb d_Mo_run_79 (by decide) (fun c12 => ?_) (fun c12 => absurd (by decide) c12)
        refine lv_aload_n hx hb d_Mo_run_100 rfl (lv_at hl 0 rfl) ?_
        refine mo_getS (v := 2) C V X 46 (by decide) (by decide) (by first | rfl | exact hS46) f_Mo_277 rfl d_Mo_run_101 ?_
        refine lv_iconst (v := 1) hx hb d_Mo_run_104 (by decide) ?_
        refine lv_icmp_ne (tgt := 157) hx hb d_Mo_run_105 (by decide) (fun c13 => ?_) (fun c13 => absurd c13 (by decide))
        refine lv_aload_n hx hb d_Mo_run_157 rfl (lv_at hl 0 rfl) ?_
        refine lv_aload_n hx hb d_Mo_run_158 rfl (lv_at hl 0 rfl) ?_
        refine mo_getS (v := 2) C V X 46 (by decide) (by decide) (by first | rfl | exact hS46) f_Mo_277 rfl d_Mo_run_159 ?_
        refine lv_iconst (v := 2) hx hb d_Mo_run_162 (by decide) ?_
        refine lv_icmp_ne (tgt := 170) hx hb d_Mo_run_163 (by decide) (fun c14 => absurd (by decide) c14) (fun c14 => ?_)
        refine lv_iconst (v := 0) hx hb d_Mo_run_166 (by decide) ?_
        refine lv_goto (tgt := 171) hx hb d_Mo_run_167 (by decide) ?_
        refine mo_putS C V X 49 (by decide) (by decide) f_Mo_118 rfl rfl rfl d_Mo_run_171 (fun f1 H locs V1 X1 => ?_)
        clear V X
        have V := V1
        have X := X1
        clear V1 X1
        refine lv_goto (tgt := 68) hx hb d_Mo_run_174 (by decide) ?_
        have hl : lv_has ls 3 [(0, .ref a), (1, .int (nI φ)), (2, .int (nI root))] := lv_sub hl [0, 1, 2] rfl
        exact hk _ _ _ ls X V hl
      · have hS46 := h46
        rw [h46, if_neg (by decide)] at hk
        refine lv_aload_n hx hb d_Mo_run_68 rfl (lv_at hl 0 rfl) ?_
        refine mo_getS (v := -1) C V X 49 (by decide) (by decide) (by first | rfl | exact hS49) f_Mo_118 rfl d_Mo_run_69 ?_
        refine lv_if_ge (tgt := 177) hx hb d_Mo_run_72 (by decide) (fun c15 => absurd c15 (by decide)) (fun c15 => ?_)
        refine lv_aload_n hx hb d_Mo_run_75 rfl (lv_at hl 0 rfl) ?_
        refine mo_getS (v := nI 0) C V X 45 (by decide) (by decide) (by first | rfl | exact hS45) f_Mo_274 rfl d_Mo_run_76 ?_
        refine lv_if_le (tgt := 100) hx hb d_Mo_run_79 (by decide) (fun c16 => ?_) (fun c16 => absurd (by decide) c16)
        refine lv_aload_n hx hb d_Mo_run_100 rfl (lv_at hl 0 rfl) ?_
        refine mo_getS (v := 3) C V X 46 (by decide) (by decide) (by first | rfl | exact hS46) f_Mo_277 rfl d_Mo_run_101 ?_
        refine lv_iconst (v := 1) hx hb d_Mo_run_104 (by decide) ?_
        refine lv_icmp_ne (tgt := 157) hx hb d_Mo_run_105 (by decide) (fun c17 => ?_) (fun c17 => absurd c17 (by decide))
        refine lv_aload_n hx hb d_Mo_run_157 rfl (lv_at hl 0 rfl) ?_
        refine lv_aload_n hx hb d_Mo_run_158 rfl (lv_at hl 0 rfl) ?_
        refine mo_getS (v := 3) C V X 46 (by decide) (by decide) (by first | rfl | exact hS46) f_Mo_277 rfl d_Mo_run_159 ?_
        refine lv_iconst (v := 2) hx hb d_Mo_run_162 (by decide) ?_
        refine lv_icmp_ne (tgt := 170) hx hb d_Mo_run_163 (by decide) (fun c18 => ?_) (fun c18 => absurd c18 (by decide))
        refine lv_iconst (v := 1) hx hb d_Mo_run_170 (by decide) ?_
        refine mo_putS C V X 49 (by decide) (by decide) f_Mo_118 rfl rfl rfl d_Mo_run_171 (fun f1 H locs V1 X1 => ?_)
        clear V X
        have V := V1
        have X := X1
        clear V1 X1
        refine lv_goto (tgt := 68) hx hb d_Mo_run_174 (by decide) ?_
        have hl : lv_has ls 3 [(0, .ref a), (1, .int (nI φ)), (2, .int (nI root))] := lv_sub hl [0, 1, 2] rfl
        exact hk _ _ _ ls X V hl
  have hfin : ∀ S4 I4 J4 (k4 : Nat), S4 49 = nI k4 → k4 < 4 → S4 51 = nI (sr_run 16 φ (sr_D cb bg 20 0 O (vt_0 0))).1.length → mrn S I J (sr_run 16 φ (sr_D cb bg 20 0 O (vt_0 0))) S4 I4 J4 → RW S4 I4 J4 := by
    rw [hRW]
    intro S1 I1 J1 k4 h49 hk4 h51 hmr f1 H locs ls X V hl
    have hS49 := h49
    have hS51 := h51
    refine lv_aload_n hx hb d_Mo_run_68 rfl (lv_at hl 0 rfl) ?_
    refine mo_getS (v := nI k4) C V X 49 (by decide) (by decide) (by first | rfl | exact hS49) f_Mo_118 rfl d_Mo_run_69 ?_
    refine lv_if_ge (tgt := 177) hx hb d_Mo_run_72 (by decide) (fun c19 => ?_) (fun c19 => absurd (nI_pos' (by omega)) c19)
    refine lv_aload_n hx hb d_Mo_run_177 rfl (lv_at hl 0 rfl) ?_
    refine mo_getS (v := nI (sr_run 16 φ (sr_D cb bg 20 0 O (vt_0 0))).1.length) C V X 51 (by decide) (by decide) (by first | rfl | exact hS51) f_Mo_296 rfl d_Mo_run_178 ?_
    refine gh_reti hAe C V hr hlocks d_Mo_run_181 (by first | decide | omega | (dsimp only; omega)) (by first | decide | omega | (dsimp only; omega)) ?_
    exact ⟨rfl, _, _, _, X, hmr⟩
  have hend : (sr_run 16 φ (sr_D cb bg 20 0 O (vt_0 0))).2.1 < 4 := sr_run_lt
  refine gh_callV C V hl.1 m_Mo_enter l_Mo_299 (c_Mo_enter l E _ _ a ad _ _ _ 0 (nI root) 0 φ 0 X.1 (by decide) e48 (by omega) (by rw [e49]; decide) e45 (by decide)) rfl X.1.1 gc_Mo ⟨by first | decide | omega | (dsimp only; omega), by first | decide | omega | (dsimp only; omega)⟩ ⟨by first | decide | omega | (dsimp only; omega), by first | decide | omega | (dsimp only; omega)⟩ (Nat.le_of_ble_eq_true rfl) rfl d_Mo_run_65 (fun r z9 H locs hp V1 => ?_)
  obtain ⟨rfl, hp0, hp1⟩ := hp
  have V := V1
  refine W.eq (g2 := F0 m 68 ls []) rfl ?_
  have hl : lv_has ls 3 [(0, .ref a), (1, .int (nI φ)), (2, .int (nI root))] := lv_sub hl [1, 2, 0] rfl
  by_cases hz : φ = 0
  · have X := X.then (hp0 hz)
    have hr : sr_run 16 φ (sr_D cb bg 20 0 O (vt_0 0)) = ([], 2, 0) := sr_run_poor (by rw [sr_c_add, hz]; omega)
    have h5 : RW (va_up S3 49 2) I2 J2 := by
      refine hfin _ _ _ 2 va_up_s (by decide) (by rw [hr, va_up_n (by decide)]; exact e51) ?_
      rw [hr]
      exact mrr.mrn (S1 := va_up S3 49 2) (I1 := I2) (I0 := I2) (J1 := J2) (nv := nv) (np := np) ⟨⟨va_up_s, by rw [va_up_n (by decide), e48, hz], by rw [va_up_n (by decide)]; exact e51, Nat.zero_le _⟩, ⟨nv, np, Nat.le_refl _, by omega, Nat.le_refl _, by omega, fun j hj => absurd hj (Nat.not_lt_zero j)⟩, ma.rf, fun _ _ => rfl, rfl, rfl, rfl, rfl⟩ hF (by omega) (by omega) (fun _ _ => rfl) (by rw [va_up_n (by decide)]; exact e0) (fun k hk => by rw [va_up_n (by omega)]; exact eT k hk)
    rw [hRW] at h5
    exact h5 _ _ _ ls X V hl
  · have X := X.then (hp1 (by omega))
    have h5 : RW (va_up (va_up (va_up S3 48 (nI (φ - 1))) 45 (nI 1)) 46 0) (up4 I2 0 (nI root) 0 0) J2 := by
      have hI4 : ∀ k, k < 35 ∨ 44 < k → up4 I2 0 (nI root) 0 0 k = I2 k := fun k hk => by unfold up4; rw [va_up_n (by omega), va_up_n (by omega), va_up_n (by omega), va_up_n (by omega)]
      have hM4 : ma I2 J2 (up4 I2 0 (nI root) 0 0) J2 260 nv 300 np := ma_other (fun k hk => hI4 k (by omega))
      have h33b : ∀ j, j < 60 → I2 33 j = nI (cb j) := fun j hj => by rw [hF.2.2.2 33 (by decide) (by decide) (by decide) (by decide) (by decide) (by decide) (by decide)]; exact h33 j hj
      have h34b : ∀ j, j < 180 → I2 34 j = nI (bg j) := fun j hj => by rw [hF.2.2.2 34 (by decide) (by decide) (by decide) (by decide) (by decide) (by decide) (by decide)]; exact h34 j hj
      have hn8 : np ≤ 8800 := by omega
      refine mrun_all hcl htp (n := 20) (B := 759) (C := 8768) hN hq (by decide) (by decide) (by decide) (by decide) 15 (xs := []) (T := sr_B cb bg 20 0 O (vt_0 0)) (φ := φ - 1) (nv := nv) (np := np) rfl ⟨⟨?_, ?_, ?_, ?_⟩, ⟨by omega, by omega, by omega, by omega⟩, hc2.keep hM4 (Nat.le_refl _) (Nat.le_refl _) hn8, fun j hj => by rw [hI4 33 (by omega)]; exact h33b j hj, fun j hj => by rw [hI4 34 (by omega)]; exact h34b j hj⟩ ?_ ?_ va_up_s ?_ (fun j hj => absurd hj (Nat.not_lt_zero j)) (Or.inl ⟨?_, ⟨O, vt_0 0, ⟨root, ?_, hw2.keep hM4 (Nat.le_refl _) (Nat.le_refl _) hn8⟩, ⟨0, ?_, hc2.1.keep hM4 (Nat.le_refl _) (Nat.le_refl _) hn8⟩, rfl⟩, by omega, by omega⟩) ⟨by omega, by omega⟩ (fun S4 I4 J4 h4 => ?_)
      · rw [va_up_n (by decide), va_up_n (by decide), va_up_n (by decide)]; rw [eS 11 (by decide) (by decide) (by decide) (by decide)]; exact h11
      · rw [va_up_n (by decide), va_up_n (by decide), va_up_n (by decide)]; rw [eS 12 (by decide) (by decide) (by decide) (by decide)]; exact h12
      · rw [va_up_n (by decide), va_up_n (by decide), va_up_s]
      · rw [va_up_n (by decide), va_up_n (by decide), va_up_n (by decide)]; exact e49
      · rw [va_up_n (by decide), va_up_s]
      · unfold up4; rw [va_up_s]; simp [upd]
      · rw [va_up_n (by decide), va_up_n (by decide), va_up_n (by decide)]; exact e51
      · unfold up4; simp [va_up, upd]
      · unfold up4; simp [va_up, upd]
      · unfold up4; simp [va_up, upd]; rfl
      rw [List.nil_append, show (15 + 1 : Nat) = 16 from rfl, ← sr_run_paid (by omega)] at h4
      have h4b : mrn S I J (sr_run 16 φ (sr_D cb bg 20 0 O (vt_0 0))) S4 I4 J4 := mrr.mrn h4 hF (by omega) (by omega) hI4 (by rw [va_up_n (by decide), va_up_n (by decide), va_up_n (by decide)]; exact e0) (fun k hk => by rw [va_up_n (by omega), va_up_n (by omega), va_up_n (by omega)]; exact eT k hk)
      exact hfin S4 I4 J4 _ h4b.1.1 hend h4b.1.2.2.1 h4b
    rw [hRW] at h5
    exact h5 _ _ _ ls X V hl
