/-! text, valueOf, kind, integer, adopt of the model. Printed by wip/whole/gen_mo29.py. -/
theorem kl_Mo_247 : Cond.constantLong R_Mo 247 32 ∈ g_tbl := g_in 1147 (by decide +kernel) (by decide +kernel)
theorem kl_Mo_249 : Cond.constantLong R_Mo 249 126 ∈ g_tbl := g_in 1148 (by decide +kernel) (by decide +kernel)
theorem kl_Mo_196 : Cond.constantLong R_Mo 196 48 ∈ g_tbl := g_in 1221 (by decide +kernel) (by decide +kernel)
theorem kl_Mo_198 : Cond.constantLong R_Mo 198 (-9223372036854775808) ∈ g_tbl := g_in 1222 (by decide +kernel) (by decide +kernel)
theorem kl_Mo_200 : Cond.constantLong R_Mo 200 (-9223372036854775807) ∈ g_tbl := g_in 1223 (by decide +kernel) (by decide +kernel)
theorem kl_Mo_202 : Cond.constantLong R_Mo 202 (-922337203685477580) ∈ g_tbl := g_in 1224 (by decide +kernel) (by decide +kernel)
theorem kl_Mo_204 : Cond.constantLong R_Mo 204 10 ∈ g_tbl := g_in 1225 (by decide +kernel) (by decide +kernel)
theorem kl_Mo_391 : Cond.constantLong R_Mo 391 1000000000000000000 ∈ g_tbl := g_in 1437 (by decide +kernel) (by decide +kernel)
theorem lg_len {b n : Nat} (hb : b < 2 ^ 31) (hn : n < 2 ^ 31) : lg_cmp (lN b) (lN n) ≤ 0 ↔ b ≤ n := by
  have h1 : lg_cmp (lN b) (lN n) ≤ 0 ↔ (lg_cmp (lN b) (lN n) < 0 ∨ lg_cmp (lN b) (lN n) = 0) := by
    rw [Int32.le_iff_toInt_le, Int32.lt_iff_toInt_lt, ← Int32.toInt_inj]
    omega
  rw [h1, lg_lt, lg_eq, lN_lt hb hn, lN_eq hb hn]
  omega
theorem lg_ltn {b n : Nat} (hb : b < 2 ^ 31) (hn : n < 2 ^ 31) : lg_cmp (lN b) (lN n) < 0 ↔ b < n := by rw [lg_lt, lN_lt hb hn]
/-- a byte that is a character of a text -/
def by_ok (x : Int64) (k : Nat) : Prop := 32 ≤ by_n x k ∧ by_n x k ≤ 126
/-- the value that is asked for: the document, or one of those put out -/
def mo_val (S : Nat → Int32) (I : mo_I) (k : Int32) (vv : Nat) : Prop := (k = -1 ∧ S 17 = nI vv) ∨ ∃ jj, jj < 16 ∧ k = nI jj ∧ I 50 jj = nI vv
theorem d_Mo_valueOf_0 : decode b_Mo_valueOf 0 = .ok (.iload_n 1, 1) := by decide +kernel
theorem d_Mo_valueOf_1 : decode b_Mo_valueOf 1 = .ok (.ifCond .ge 10, 3) := by decide +kernel
theorem d_Mo_valueOf_4 : decode b_Mo_valueOf 4 = .ok (.aload_n 0, 1) := by decide +kernel
theorem d_Mo_valueOf_5 : decode b_Mo_valueOf 5 = .ok (.getfield 259, 3) := by decide +kernel
theorem d_Mo_valueOf_8 : decode b_Mo_valueOf 8 = .ok (.goto 9, 3) := by decide +kernel
theorem d_Mo_valueOf_11 : decode b_Mo_valueOf 11 = .ok (.aload_n 0, 1) := by decide +kernel
theorem d_Mo_valueOf_12 : decode b_Mo_valueOf 12 = .ok (.getfield 121, 3) := by decide +kernel
theorem d_Mo_valueOf_15 : decode b_Mo_valueOf 15 = .ok (.iload_n 1, 1) := by decide +kernel
theorem d_Mo_valueOf_16 : decode b_Mo_valueOf 16 = .ok (.iaload, 1) := by decide +kernel
theorem d_Mo_valueOf_17 : decode b_Mo_valueOf 17 = .ok (.ireturn, 1) := by decide +kernel
set_option maxHeartbeats 4000000 in
set_option maxRecDepth 100000 in
theorem c_Mo_valueOfD (l : Launch) (E : gh_E) (sz : Nat) (f : gh_F) (a : Nat) (ad : Nat → Nat) (S : Nat → Int32) (I : Nat → Nat → Int32) (J : Nat → Nat → Int64) (vv : Nat) (hX : mo_R E f a ad S I J) (hS17 : S 17 = nI vv) : gh_M l y_Mo_valueOf b_Mo_valueOf 2 (some .int) E sz [.ref a, .int ((-1))] f { frames := 3, cells := 0, slots := 0, locals := 60 } (fun r g => r = some (.int (nI vv)) ∧ g = f) := by
  refine gh_open (by decide) (Nat.le_of_ble_eq_true rfl) ?_
  intro p e s m args below meth c A ls hAe C V hr hlocks hname hl
  have hx := C.1
  have hb := C.2.1
  have hl : lv_has ls 2 [(0, .ref a), (1, .int ((-1)))] := hl
  have X : mo_X E f f a ad S I J := ⟨hX, gh_fr.rf⟩
  refine lv_iload_n hx hb d_Mo_valueOf_0 rfl (lv_at hl 1 rfl) ?_
  refine lv_if_ge (tgt := 11) hx hb d_Mo_valueOf_1 (by decide) (fun c1 => absurd c1 (by decide)) (fun c1 => ?_)
  refine lv_aload_n hx hb d_Mo_valueOf_4 rfl (lv_at hl 0 rfl) ?_
  refine mo_getS (v := nI vv) C V X 17 (by decide) (by decide) (by first | rfl | exact hS17) f_Mo_259 rfl d_Mo_valueOf_5 ?_
  refine lv_goto (tgt := 17) hx hb d_Mo_valueOf_8 (by decide) ?_
  refine gh_reti hAe C V hr hlocks d_Mo_valueOf_17 (by first | decide | omega | (dsimp only; omega)) (by first | decide | omega | (dsimp only; omega)) ?_
  exact ⟨rfl, rfl⟩
set_option maxHeartbeats 4000000 in
set_option maxRecDepth 100000 in
theorem c_Mo_valueOfO (l : Launch) (E : gh_E) (sz : Nat) (f : gh_F) (a : Nat) (ad : Nat → Nat) (S : Nat → Int32) (I : Nat → Nat → Int32) (J : Nat → Nat → Int64) (vv jj : Nat) (hX : mo_R E f a ad S I J) (hj : jj < 16) (h50 : I 50 jj = nI vv) : gh_M l y_Mo_valueOf b_Mo_valueOf 2 (some .int) E sz [.ref a, .int (nI jj)] f { frames := 3, cells := 0, slots := 0, locals := 60 } (fun r g => r = some (.int (nI vv)) ∧ g = f) := by
  refine gh_open (by decide) (Nat.le_of_ble_eq_true rfl) ?_
  intro p e s m args below meth c A ls hAe C V hr hlocks hname hl
  have hx := C.1
  have hb := C.2.1
  have hl : lv_has ls 2 [(0, .ref a), (1, .int (nI jj))] := hl
  have X : mo_X E f f a ad S I J := ⟨hX, gh_fr.rf⟩
  refine lv_iload_n hx hb d_Mo_valueOf_0 rfl (lv_at hl 1 rfl) ?_
  refine lv_if_ge (tgt := 11) hx hb d_Mo_valueOf_1 (by decide) (fun c1 => ?_) (fun c1 => absurd (nI_pos' (by omega)) c1)
  refine lv_aload_n hx hb d_Mo_valueOf_11 rfl (lv_at hl 0 rfl) ?_
  refine mo_getA C V X 50 (by decide) (by decide) f_Mo_121 rfl d_Mo_valueOf_12 ?_
  refine lv_iload_n hx hb d_Mo_valueOf_15 rfl (lv_at hl 1 rfl) ?_
  refine mo_ild (k := 50) (i := jj) (n := 16) C V X (by decide) (by decide) rfl (by omega) (by decide) d_Mo_valueOf_16 ?_
  rw [show I 50 jj = nI vv from h50]
  refine gh_reti hAe C V hr hlocks d_Mo_valueOf_17 (by first | decide | omega | (dsimp only; omega)) (by first | decide | omega | (dsimp only; omega)) ?_
  exact ⟨rfl, rfl⟩
theorem mo_val.s {S : Nat → Int32} {I : mo_I} {k : Int32} {vv q : Nat} {x : Int32} (h : mo_val S I k vv) (hq : 17 ≠ q) : mo_val (va_up S q x) I k vv := by
  rcases h with ⟨h1, h2⟩ | h
  · exact Or.inl ⟨h1, by rw [va_up_n hq]; exact h2⟩
  · exact Or.inr h
theorem c_Mo_valueOf (l : Launch) (E : gh_E) (sz : Nat) (f : gh_F) (a : Nat) (ad : Nat → Nat) (S : Nat → Int32) (I : Nat → Nat → Int32) (J : Nat → Nat → Int64) (k : Int32) (vv : Nat) (hX : mo_R E f a ad S I J) (hv : mo_val S I k vv) : gh_M l y_Mo_valueOf b_Mo_valueOf 2 (some .int) E sz [.ref a, .int k] f { frames := 3, cells := 0, slots := 0, locals := 60 } (fun r g => r = some (.int (nI vv)) ∧ g = f) := by
  rcases hv with ⟨rfl, h⟩ | ⟨jj, h1, rfl, h2⟩
  · exact c_Mo_valueOfD l E sz f a ad S I J vv hX h
  · exact c_Mo_valueOfO l E sz f a ad S I J vv jj hX h1 h2
theorem d_Mo_kind_0 : decode b_Mo_kind 0 = .ok (.aload_n 0, 1) := by decide +kernel
theorem d_Mo_kind_1 : decode b_Mo_kind 1 = .ok (.aload_n 0, 1) := by decide +kernel
theorem d_Mo_kind_2 : decode b_Mo_kind 2 = .ok (.iload_n 1, 1) := by decide +kernel
theorem d_Mo_kind_3 : decode b_Mo_kind 3 = .ok (.invokevirtual 410, 3) := by decide +kernel
theorem d_Mo_kind_6 : decode b_Mo_kind 6 = .ok (.iconst 0, 1) := by decide +kernel
theorem d_Mo_kind_7 : decode b_Mo_kind 7 = .ok (.invokevirtual 251, 3) := by decide +kernel
theorem d_Mo_kind_10 : decode b_Mo_kind 10 = .ok (.ifCond .eq 7, 3) := by decide +kernel
theorem d_Mo_kind_13 : decode b_Mo_kind 13 = .ok (.iconst 0, 1) := by decide +kernel
theorem d_Mo_kind_14 : decode b_Mo_kind 14 = .ok (.goto 13, 3) := by decide +kernel
theorem d_Mo_kind_17 : decode b_Mo_kind 17 = .ok (.aload_n 0, 1) := by decide +kernel
theorem d_Mo_kind_18 : decode b_Mo_kind 18 = .ok (.getfield 7, 3) := by decide +kernel
theorem d_Mo_kind_21 : decode b_Mo_kind 21 = .ok (.aload_n 0, 1) := by decide +kernel
theorem d_Mo_kind_22 : decode b_Mo_kind 22 = .ok (.iload_n 1, 1) := by decide +kernel
theorem d_Mo_kind_23 : decode b_Mo_kind 23 = .ok (.invokevirtual 413, 3) := by decide +kernel
theorem d_Mo_kind_26 : decode b_Mo_kind 26 = .ok (.iaload, 1) := by decide +kernel
theorem d_Mo_kind_27 : decode b_Mo_kind 27 = .ok (.ireturn, 1) := by decide +kernel
set_option maxHeartbeats 4000000 in
set_option maxRecDepth 100000 in
theorem c_Mo_kind0 (l : Launch) (E : gh_E) (sz : Nat) (f : gh_F) (a : Nat) (ad : Nat → Nat) (S : Nat → Int32) (I : Nat → Nat → Int32) (J : Nat → Nat → Int64) (k : Int32) (hX : mo_R E f a ad S I J) (hno : (decide (k < -1) || !decide (k < S 51)) = true) : gh_M l y_Mo_kind b_Mo_kind 2 (some .int) E sz [.ref a, .int k] f { frames := 5, cells := 0, slots := 0, locals := 100 } (fun r g => r = some (.int 0) ∧ mo_X E f g a ad (va_up S 0 1) I J) := by
  refine gh_open (by decide) (Nat.le_of_ble_eq_true rfl) ?_
  intro p e s m args below meth c A ls hAe C V hr hlocks hname hl
  have hx := C.1
  have hb := C.2.1
  have hl : lv_has ls 2 [(0, .ref a), (1, .int k)] := hl
  have X : mo_X E f f a ad S I J := ⟨hX, gh_fr.rf⟩
  refine lv_aload_n hx hb d_Mo_kind_0 rfl (lv_at hl 0 rfl) ?_
  refine lv_aload_n hx hb d_Mo_kind_1 rfl (lv_at hl 0 rfl) ?_
  refine lv_iload_n hx hb d_Mo_kind_2 rfl (lv_at hl 1 rfl) ?_
  refine gh_callV C V hl.1 m_Mo_isNone l_Mo_410 (c_Mo_isNone l E _ _ a ad _ _ _ k X.1) rfl X.1.1 gc_Mo ⟨by first | decide | omega | (dsimp only; omega), by first | decide | omega | (dsimp only; omega)⟩ ⟨by first | decide | omega | (dsimp only; omega), by first | decide | omega | (dsimp only; omega)⟩ (Nat.le_of_ble_eq_true rfl) rfl d_Mo_kind_3 (fun r z9 H locs hp V1 => ?_)
  obtain ⟨rfl, he9⟩ := hp
  rw [he9] at V1
  have V := V1
  rw [hno]
  refine W.eq (g2 := F0 m 6 ls [.int (gh_bi true), .ref a]) rfl ?_
  refine lv_iconst (v := 0) hx hb d_Mo_kind_6 (by decide) ?_
  refine W.eq (g2 := F0 m 7 ls [.int (gh_bi false), .int (gh_bi true), .ref a]) rfl ?_
  refine gh_callV C V hl.1 m_Mo_throwing l_Mo_251 (c_Mo_throwing l E _ _ a ad _ _ _ true false X.1) rfl X.1.1 gc_Mo ⟨by first | decide | omega | (dsimp only; omega), by first | decide | omega | (dsimp only; omega)⟩ ⟨by first | decide | omega | (dsimp only; omega), by first | decide | omega | (dsimp only; omega)⟩ (Nat.le_of_ble_eq_true rfl) rfl d_Mo_kind_7 (fun r z9 H locs hp V1 => ?_)
  obtain ⟨rfl, X2⟩ := hp
  have X := X.then X2
  have V := V1
  refine W.eq (g2 := F0 m 10 ls [.int (gh_bi true)]) rfl ?_
  refine lv_if_eq (tgt := 17) hx hb d_Mo_kind_10 (by decide) (fun c1 => absurd c1 (by decide)) (fun c1 => ?_)
  refine lv_iconst (v := 0) hx hb d_Mo_kind_13 (by decide) ?_
  refine lv_goto (tgt := 27) hx hb d_Mo_kind_14 (by decide) ?_
  refine gh_reti hAe C V hr hlocks d_Mo_kind_27 (by first | decide | omega | (dsimp only; omega)) (by first | decide | omega | (dsimp only; omega)) ?_
  exact ⟨rfl, X⟩
set_option maxHeartbeats 4000000 in
set_option maxRecDepth 100000 in
theorem c_Mo_kind1 (l : Launch) (E : gh_E) (sz : Nat) (f : gh_F) (a : Nat) (ad : Nat → Nat) (S : Nat → Int32) (I : Nat → Nat → Int32) (J : Nat → Nat → Int64) (k : Int32) (vv kk : Nat) (hX : mo_R E f a ad S I J) (hno : (decide (k < -1) || !decide (k < S 51)) = false) (hv : mo_val S I k vv) (hv7 : vv < 760) (h1 : I 1 vv = nI kk) : gh_M l y_Mo_kind b_Mo_kind 2 (some .int) E sz [.ref a, .int k] f { frames := 5, cells := 0, slots := 0, locals := 100 } (fun r g => r = some (.int (nI kk)) ∧ mo_X E f g a ad (va_up S 0 0) I J) := by
  refine gh_open (by decide) (Nat.le_of_ble_eq_true rfl) ?_
  intro p e s m args below meth c A ls hAe C V hr hlocks hname hl
  have hx := C.1
  have hb := C.2.1
  have hl : lv_has ls 2 [(0, .ref a), (1, .int k)] := hl
  have X : mo_X E f f a ad S I J := ⟨hX, gh_fr.rf⟩
  refine lv_aload_n hx hb d_Mo_kind_0 rfl (lv_at hl 0 rfl) ?_
  refine lv_aload_n hx hb d_Mo_kind_1 rfl (lv_at hl 0 rfl) ?_
  refine lv_iload_n hx hb d_Mo_kind_2 rfl (lv_at hl 1 rfl) ?_
  refine gh_callV C V hl.1 m_Mo_isNone l_Mo_410 (c_Mo_isNone l E _ _ a ad _ _ _ k X.1) rfl X.1.1 gc_Mo ⟨by first | decide | omega | (dsimp only; omega), by first | decide | omega | (dsimp only; omega)⟩ ⟨by first | decide | omega | (dsimp only; omega), by first | decide | omega | (dsimp only; omega)⟩ (Nat.le_of_ble_eq_true rfl) rfl d_Mo_kind_3 (fun r z9 H locs hp V1 => ?_)
  obtain ⟨rfl, he9⟩ := hp
  rw [he9] at V1
  have V := V1
  rw [hno]
  refine W.eq (g2 := F0 m 6 ls [.int (gh_bi false), .ref a]) rfl ?_
  refine lv_iconst (v := 0) hx hb d_Mo_kind_6 (by decide) ?_
  refine W.eq (g2 := F0 m 7 ls [.int (gh_bi false), .int (gh_bi false), .ref a]) rfl ?_
  refine gh_callV C V hl.1 m_Mo_throwing l_Mo_251 (c_Mo_throwing l E _ _ a ad _ _ _ false false X.1) rfl X.1.1 gc_Mo ⟨by first | decide | omega | (dsimp only; omega), by first | decide | omega | (dsimp only; omega)⟩ ⟨by first | decide | omega | (dsimp only; omega), by first | decide | omega | (dsimp only; omega)⟩ (Nat.le_of_ble_eq_true rfl) rfl d_Mo_kind_7 (fun r z9 H locs hp V1 => ?_)
  obtain ⟨rfl, X2⟩ := hp
  have X := X.then X2
  have V := V1
  refine W.eq (g2 := F0 m 10 ls [.int (gh_bi false)]) rfl ?_
  refine lv_if_eq (tgt := 17) hx hb d_Mo_kind_10 (by decide) (fun c1 => ?_) (fun c1 => absurd (by decide) c1)
  refine lv_aload_n hx hb d_Mo_kind_17 rfl (lv_at hl 0 rfl) ?_
  refine mo_getA C V X 1 (by decide) (by decide) f_Mo_7 rfl d_Mo_kind_18 ?_
  refine lv_aload_n hx hb d_Mo_kind_21 rfl (lv_at hl 0 rfl) ?_
  refine lv_iload_n hx hb d_Mo_kind_22 rfl (lv_at hl 1 rfl) ?_
  refine gh_callV C V hl.1 m_Mo_valueOf l_Mo_413 (c_Mo_valueOf l E _ _ a ad _ _ _ k vv X.1 (by first | exact hv | exact hv.s (by decide))) rfl X.1.1 gc_Mo ⟨by first | decide | omega | (dsimp only; omega), by first | decide | omega | (dsimp only; omega)⟩ ⟨by first | decide | omega | (dsimp only; omega), by first | decide | omega | (dsimp only; omega)⟩ (Nat.le_of_ble_eq_true rfl) rfl d_Mo_kind_23 (fun r z9 H locs hp V1 => ?_)
  obtain ⟨rfl, he9⟩ := hp
  rw [he9] at V1
  have V := V1
  refine W.eq (g2 := F0 m 26 ls [.int (nI vv), .ref (ad 1)]) rfl ?_
  refine mo_ild (k := 1) (i := vv) (n := 760) C V X (by decide) (by decide) rfl (by omega) (by decide) d_Mo_kind_26 ?_
  rw [show I 1 vv = nI kk from h1]
  refine gh_reti hAe C V hr hlocks d_Mo_kind_27 (by first | decide | omega | (dsimp only; omega)) (by first | decide | omega | (dsimp only; omega)) ?_
  exact ⟨rfl, X⟩
theorem d_Mo_integer_0 : decode b_Mo_integer 0 = .ok (.aload_n 0, 1) := by decide +kernel
theorem d_Mo_integer_1 : decode b_Mo_integer 1 = .ok (.iload_n 1, 1) := by decide +kernel
theorem d_Mo_integer_2 : decode b_Mo_integer 2 = .ok (.invokevirtual 410, 3) := by decide +kernel
theorem d_Mo_integer_5 : decode b_Mo_integer 5 = .ok (.istore_n 2, 1) := by decide +kernel
theorem d_Mo_integer_6 : decode b_Mo_integer 6 = .ok (.aload_n 0, 1) := by decide +kernel
theorem d_Mo_integer_7 : decode b_Mo_integer 7 = .ok (.iload_n 2, 1) := by decide +kernel
theorem d_Mo_integer_8 : decode b_Mo_integer 8 = .ok (.iload_n 2, 1) := by decide +kernel
theorem d_Mo_integer_9 : decode b_Mo_integer 9 = .ok (.ifCond .ne 21, 3) := by decide +kernel
theorem d_Mo_integer_12 : decode b_Mo_integer 12 = .ok (.aload_n 0, 1) := by decide +kernel
theorem d_Mo_integer_13 : decode b_Mo_integer 13 = .ok (.getfield 7, 3) := by decide +kernel
theorem d_Mo_integer_16 : decode b_Mo_integer 16 = .ok (.aload_n 0, 1) := by decide +kernel
theorem d_Mo_integer_17 : decode b_Mo_integer 17 = .ok (.iload_n 1, 1) := by decide +kernel
theorem d_Mo_integer_18 : decode b_Mo_integer 18 = .ok (.invokevirtual 413, 3) := by decide +kernel
theorem d_Mo_integer_21 : decode b_Mo_integer 21 = .ok (.iaload, 1) := by decide +kernel
theorem d_Mo_integer_22 : decode b_Mo_integer 22 = .ok (.iconst 3, 1) := by decide +kernel
theorem d_Mo_integer_23 : decode b_Mo_integer 23 = .ok (.if_icmp .eq 7, 3) := by decide +kernel
theorem d_Mo_integer_26 : decode b_Mo_integer 26 = .ok (.iconst 1, 1) := by decide +kernel
theorem d_Mo_integer_27 : decode b_Mo_integer 27 = .ok (.goto 4, 3) := by decide +kernel
theorem d_Mo_integer_30 : decode b_Mo_integer 30 = .ok (.iconst 0, 1) := by decide +kernel
theorem d_Mo_integer_31 : decode b_Mo_integer 31 = .ok (.invokevirtual 251, 3) := by decide +kernel
theorem d_Mo_integer_34 : decode b_Mo_integer 34 = .ok (.ifCond .eq 7, 3) := by decide +kernel
theorem d_Mo_integer_37 : decode b_Mo_integer 37 = .ok (.lconst 0, 1) := by decide +kernel
theorem d_Mo_integer_38 : decode b_Mo_integer 38 = .ok (.goto 13, 3) := by decide +kernel
theorem d_Mo_integer_41 : decode b_Mo_integer 41 = .ok (.aload_n 0, 1) := by decide +kernel
theorem d_Mo_integer_42 : decode b_Mo_integer 42 = .ok (.getfield 13, 3) := by decide +kernel
theorem d_Mo_integer_45 : decode b_Mo_integer 45 = .ok (.aload_n 0, 1) := by decide +kernel
theorem d_Mo_integer_46 : decode b_Mo_integer 46 = .ok (.iload_n 1, 1) := by decide +kernel
theorem d_Mo_integer_47 : decode b_Mo_integer 47 = .ok (.invokevirtual 413, 3) := by decide +kernel
theorem d_Mo_integer_50 : decode b_Mo_integer 50 = .ok (.laload, 1) := by decide +kernel
theorem d_Mo_integer_51 : decode b_Mo_integer 51 = .ok (.lreturn, 1) := by decide +kernel
set_option maxHeartbeats 4000000 in
set_option maxRecDepth 100000 in
theorem c_Mo_integer0 (l : Launch) (E : gh_E) (sz : Nat) (f : gh_F) (a : Nat) (ad : Nat → Nat) (S : Nat → Int32) (I : Nat → Nat → Int32) (J : Nat → Nat → Int64) (k : Int32) (hX : mo_R E f a ad S I J) (hno : (decide (k < -1) || !decide (k < S 51)) = true) : gh_M l y_Mo_integer b_Mo_integer 3 (some .long) E sz [.ref a, .int k] f { frames := 5, cells := 0, slots := 0, locals := 100 } (fun r g => r = some (.long 0) ∧ mo_X E f g a ad (va_up S 0 1) I J) := by
  refine gh_open (by decide) (Nat.le_of_ble_eq_true rfl) ?_
  intro p e s m args below meth c A ls hAe C V hr hlocks hname hl
  have hx := C.1
  have hb := C.2.1
  have hl : lv_has ls 3 [(0, .ref a), (1, .int k)] := hl
  have X : mo_X E f f a ad S I J := ⟨hX, gh_fr.rf⟩
  refine lv_aload_n hx hb d_Mo_integer_0 rfl (lv_at hl 0 rfl) ?_
  refine lv_iload_n hx hb d_Mo_integer_1 rfl (lv_at hl 1 rfl) ?_
  refine gh_callV C V hl.1 m_Mo_isNone l_Mo_410 (c_Mo_isNone l E _ _ a ad _ _ _ k X.1) rfl X.1.1 gc_Mo ⟨by first | decide | omega | (dsimp only; omega), by first | decide | omega | (dsimp only; omega)⟩ ⟨by first | decide | omega | (dsimp only; omega), by first | decide | omega | (dsimp only; omega)⟩ (Nat.le_of_ble_eq_true rfl) rfl d_Mo_integer_2 (fun r z9 H locs hp V1 => ?_)
  obtain ⟨rfl, he9⟩ := hp
  rw [he9] at V1
  have V := V1
  rw [hno]
  refine W.eq (g2 := F0 m 5 ls [.int (gh_bi true)]) rfl ?_
  refine lv_istore_n hx hb d_Mo_integer_5 rfl hl (by decide) rfl (fun ls hl => ?_)
  have hl : lv_has ls 3 [(2, .int (gh_bi true)), (0, .ref a), (1, .int k)] := hl
  refine lv_aload_n hx hb d_Mo_integer_6 rfl (lv_at hl 1 rfl) ?_
  refine lv_iload_n hx hb d_Mo_integer_7 rfl (lv_at hl 0 rfl) ?_
  refine lv_iload_n hx hb d_Mo_integer_8 rfl (lv_at hl 0 rfl) ?_
  refine lv_if_ne (tgt := 30) hx hb d_Mo_integer_9 (by decide) (fun c1 => ?_) (fun c1 => absurd c1 (by decide))
  refine lv_iconst (v := 0) hx hb d_Mo_integer_30 (by decide) ?_
  refine W.eq (g2 := F0 m 31 ls [.int (gh_bi false), .int (gh_bi true), .ref a]) rfl ?_
  refine gh_callV C V hl.1 m_Mo_throwing l_Mo_251 (c_Mo_throwing l E _ _ a ad _ _ _ true false X.1) rfl X.1.1 gc_Mo ⟨by first | decide | omega | (dsimp only; omega), by first | decide | omega | (dsimp only; omega)⟩ ⟨by first | decide | omega | (dsimp only; omega), by first | decide | omega | (dsimp only; omega)⟩ (Nat.le_of_ble_eq_true rfl) rfl d_Mo_integer_31 (fun r z9 H locs hp V1 => ?_)
  obtain ⟨rfl, X2⟩ := hp
  have X := X.then X2
  have V := V1
  refine W.eq (g2 := F0 m 34 ls [.int (gh_bi true)]) rfl ?_
  refine lv_if_eq (tgt := 41) hx hb d_Mo_integer_34 (by decide) (fun c2 => absurd c2 (by decide)) (fun c2 => ?_)
  refine lv_lconst (v := 0) hx hb d_Mo_integer_37 (by decide) ?_
  refine lv_goto (tgt := 51) hx hb d_Mo_integer_38 (by decide) ?_
  refine gh_retl hAe C V hr hlocks d_Mo_integer_51 (by first | decide | omega | (dsimp only; omega)) (by first | decide | omega | (dsimp only; omega)) ?_
  exact ⟨rfl, X⟩
set_option maxHeartbeats 4000000 in
set_option maxRecDepth 100000 in
theorem c_Mo_integer1 (l : Launch) (E : gh_E) (sz : Nat) (f : gh_F) (a : Nat) (ad : Nat → Nat) (S : Nat → Int32) (I : Nat → Nat → Int32) (J : Nat → Nat → Int64) (k : Int32) (vv kk : Nat) (hX : mo_R E f a ad S I J) (hno : (decide (k < -1) || !decide (k < S 51)) = false) (hv : mo_val S I k vv) (hv7 : vv < 760) (h1 : I 1 vv = nI kk) (hkk : kk ≠ 3 ∧ kk < 100) : gh_M l y_Mo_integer b_Mo_integer 3 (some .long) E sz [.ref a, .int k] f { frames := 5, cells := 0, slots := 0, locals := 100 } (fun r g => r = some (.long 0) ∧ mo_X E f g a ad (va_up S 0 2) I J) := by
  refine gh_open (by decide) (Nat.le_of_ble_eq_true rfl) ?_
  intro p e s m args below meth c A ls hAe C V hr hlocks hname hl
  have hx := C.1
  have hb := C.2.1
  have hl : lv_has ls 3 [(0, .ref a), (1, .int k)] := hl
  have X : mo_X E f f a ad S I J := ⟨hX, gh_fr.rf⟩
  refine lv_aload_n hx hb d_Mo_integer_0 rfl (lv_at hl 0 rfl) ?_
  refine lv_iload_n hx hb d_Mo_integer_1 rfl (lv_at hl 1 rfl) ?_
  refine gh_callV C V hl.1 m_Mo_isNone l_Mo_410 (c_Mo_isNone l E _ _ a ad _ _ _ k X.1) rfl X.1.1 gc_Mo ⟨by first | decide | omega | (dsimp only; omega), by first | decide | omega | (dsimp only; omega)⟩ ⟨by first | decide | omega | (dsimp only; omega), by first | decide | omega | (dsimp only; omega)⟩ (Nat.le_of_ble_eq_true rfl) rfl d_Mo_integer_2 (fun r z9 H locs hp V1 => ?_)
  obtain ⟨rfl, he9⟩ := hp
  rw [he9] at V1
  have V := V1
  rw [hno]
  refine W.eq (g2 := F0 m 5 ls [.int (gh_bi false)]) rfl ?_
  refine lv_istore_n hx hb d_Mo_integer_5 rfl hl (by decide) rfl (fun ls hl => ?_)
  have hl : lv_has ls 3 [(2, .int (gh_bi false)), (0, .ref a), (1, .int k)] := hl
  refine lv_aload_n hx hb d_Mo_integer_6 rfl (lv_at hl 1 rfl) ?_
  refine lv_iload_n hx hb d_Mo_integer_7 rfl (lv_at hl 0 rfl) ?_
  refine lv_iload_n hx hb d_Mo_integer_8 rfl (lv_at hl 0 rfl) ?_
  refine lv_if_ne (tgt := 30) hx hb d_Mo_integer_9 (by decide) (fun c1 => absurd (by decide) c1) (fun c1 => ?_)
  refine lv_aload_n hx hb d_Mo_integer_12 rfl (lv_at hl 1 rfl) ?_
  refine mo_getA C V X 1 (by decide) (by decide) f_Mo_7 rfl d_Mo_integer_13 ?_
  refine lv_aload_n hx hb d_Mo_integer_16 rfl (lv_at hl 1 rfl) ?_
  refine lv_iload_n hx hb d_Mo_integer_17 rfl (lv_at hl 2 rfl) ?_
  refine gh_callV C V hl.1 m_Mo_valueOf l_Mo_413 (c_Mo_valueOf l E _ _ a ad _ _ _ k vv X.1 (by first | exact hv | exact hv.s (by decide))) rfl X.1.1 gc_Mo ⟨by first | decide | omega | (dsimp only; omega), by first | decide | omega | (dsimp only; omega)⟩ ⟨by first | decide | omega | (dsimp only; omega), by first | decide | omega | (dsimp only; omega)⟩ (Nat.le_of_ble_eq_true rfl) rfl d_Mo_integer_18 (fun r z9 H locs hp V1 => ?_)
  obtain ⟨rfl, he9⟩ := hp
  rw [he9] at V1
  have V := V1
  refine W.eq (g2 := F0 m 21 ls [.int (nI vv), .ref (ad 1), .int (gh_bi false), .ref a]) rfl ?_
  refine mo_ild (k := 1) (i := vv) (n := 760) C V X (by decide) (by decide) rfl (by omega) (by decide) d_Mo_integer_21 ?_
  rw [show I 1 vv = nI kk from h1]
  refine lv_iconst (v := 3) hx hb d_Mo_integer_22 (by decide) ?_
  refine lv_icmp_eq (tgt := 30) hx hb d_Mo_integer_23 (by decide) (fun c2 => absurd c2 (nI_nem (y := 3) (by omega) (by decide) hkk.1)) (fun c2 => ?_)
  refine lv_iconst (v := 1) hx hb d_Mo_integer_26 (by decide) ?_
  refine lv_goto (tgt := 31) hx hb d_Mo_integer_27 (by decide) ?_
  refine W.eq (g2 := F0 m 31 ls [.int (gh_bi true), .int (gh_bi false), .ref a]) rfl ?_
  refine gh_callV C V hl.1 m_Mo_throwing l_Mo_251 (c_Mo_throwing l E _ _ a ad _ _ _ false true X.1) rfl X.1.1 gc_Mo ⟨by first | decide | omega | (dsimp only; omega), by first | decide | omega | (dsimp only; omega)⟩ ⟨by first | decide | omega | (dsimp only; omega), by first | decide | omega | (dsimp only; omega)⟩ (Nat.le_of_ble_eq_true rfl) rfl d_Mo_integer_31 (fun r z9 H locs hp V1 => ?_)
  obtain ⟨rfl, X2⟩ := hp
  have X := X.then X2
  have V := V1
  refine W.eq (g2 := F0 m 34 ls [.int (gh_bi true)]) rfl ?_
  refine lv_if_eq (tgt := 41) hx hb d_Mo_integer_34 (by decide) (fun c3 => absurd c3 (by decide)) (fun c3 => ?_)
  refine lv_lconst (v := 0) hx hb d_Mo_integer_37 (by decide) ?_
  refine lv_goto (tgt := 51) hx hb d_Mo_integer_38 (by decide) ?_
  refine gh_retl hAe C V hr hlocks d_Mo_integer_51 (by first | decide | omega | (dsimp only; omega)) (by first | decide | omega | (dsimp only; omega)) ?_
  exact ⟨rfl, X⟩
set_option maxHeartbeats 4000000 in
set_option maxRecDepth 100000 in
theorem c_Mo_integer2 (l : Launch) (E : gh_E) (sz : Nat) (f : gh_F) (a : Nat) (ad : Nat → Nat) (S : Nat → Int32) (I : Nat → Nat → Int32) (J : Nat → Nat → Int64) (k : Int32) (vv : Nat) (hX : mo_R E f a ad S I J) (hno : (decide (k < -1) || !decide (k < S 51)) = false) (hv : mo_val S I k vv) (hv7 : vv < 760) (h1 : I 1 vv = nI 3) : gh_M l y_Mo_integer b_Mo_integer 3 (some .long) E sz [.ref a, .int k] f { frames := 5, cells := 0, slots := 0, locals := 100 } (fun r g => r = some (.long (J 2 vv)) ∧ mo_X E f g a ad (va_up S 0 0) I J) := by
  refine gh_open (by decide) (Nat.le_of_ble_eq_true rfl) ?_
  intro p e s m args below meth c A ls hAe C V hr hlocks hname hl
  have hx := C.1
  have hb := C.2.1
  have hl : lv_has ls 3 [(0, .ref a), (1, .int k)] := hl
  have X : mo_X E f f a ad S I J := ⟨hX, gh_fr.rf⟩
  refine lv_aload_n hx hb d_Mo_integer_0 rfl (lv_at hl 0 rfl) ?_
  refine lv_iload_n hx hb d_Mo_integer_1 rfl (lv_at hl 1 rfl) ?_
  refine gh_callV C V hl.1 m_Mo_isNone l_Mo_410 (c_Mo_isNone l E _ _ a ad _ _ _ k X.1) rfl X.1.1 gc_Mo ⟨by first | decide | omega | (dsimp only; omega), by first | decide | omega | (dsimp only; omega)⟩ ⟨by first | decide | omega | (dsimp only; omega), by first | decide | omega | (dsimp only; omega)⟩ (Nat.le_of_ble_eq_true rfl) rfl d_Mo_integer_2 (fun r z9 H locs hp V1 => ?_)
  obtain ⟨rfl, he9⟩ := hp
  rw [he9] at V1
  have V := V1
  rw [hno]
  refine W.eq (g2 := F0 m 5 ls [.int (gh_bi false)]) rfl ?_
  refine lv_istore_n hx hb d_Mo_integer_5 rfl hl (by decide) rfl (fun ls hl => ?_)
  have hl : lv_has ls 3 [(2, .int (gh_bi false)), (0, .ref a), (1, .int k)] := hl
  refine lv_aload_n hx hb d_Mo_integer_6 rfl (lv_at hl 1 rfl) ?_
  refine lv_iload_n hx hb d_Mo_integer_7 rfl (lv_at hl 0 rfl) ?_
  refine lv_iload_n hx hb d_Mo_integer_8 rfl (lv_at hl 0 rfl) ?_
  refine lv_if_ne (tgt := 30) hx hb d_Mo_integer_9 (by decide) (fun c1 => absurd (by decide) c1) (fun c1 => ?_)
  refine lv_aload_n hx hb d_Mo_integer_12 rfl (lv_at hl 1 rfl) ?_
  refine mo_getA C V X 1 (by decide) (by decide) f_Mo_7 rfl d_Mo_integer_13 ?_
  refine lv_aload_n hx hb d_Mo_integer_16 rfl (lv_at hl 1 rfl) ?_
  refine lv_iload_n hx hb d_Mo_integer_17 rfl (lv_at hl 2 rfl) ?_
  refine gh_callV C V hl.1 m_Mo_valueOf l_Mo_413 (c_Mo_valueOf l E _ _ a ad _ _ _ k vv X.1 (by first | exact hv | exact hv.s (by decide))) rfl X.1.1 gc_Mo ⟨by first | decide | omega | (dsimp only; omega), by first | decide | omega | (dsimp only; omega)⟩ ⟨by first | decide | omega | (dsimp only; omega), by first | decide | omega | (dsimp only; omega)⟩ (Nat.le_of_ble_eq_true rfl) rfl d_Mo_integer_18 (fun r z9 H locs hp V1 => ?_)
  obtain ⟨rfl, he9⟩ := hp
  rw [he9] at V1
  have V := V1
  refine W.eq (g2 := F0 m 21 ls [.int (nI vv), .ref (ad 1), .int (gh_bi false), .ref a]) rfl ?_
  refine mo_ild (k := 1) (i := vv) (n := 760) C V X (by decide) (by decide) rfl (by omega) (by decide) d_Mo_integer_21 ?_
  rw [show I 1 vv = nI 3 from h1]
  refine lv_iconst (v := 3) hx hb d_Mo_integer_22 (by decide) ?_
  refine lv_icmp_eq (tgt := 30) hx hb d_Mo_integer_23 (by decide) (fun c2 => ?_) (fun c2 => absurd rfl c2)
  refine lv_iconst (v := 0) hx hb d_Mo_integer_30 (by decide) ?_
  refine W.eq (g2 := F0 m 31 ls [.int (gh_bi false), .int (gh_bi false), .ref a]) rfl ?_
  refine gh_callV C V hl.1 m_Mo_throwing l_Mo_251 (c_Mo_throwing l E _ _ a ad _ _ _ false false X.1) rfl X.1.1 gc_Mo ⟨by first | decide | omega | (dsimp only; omega), by first | decide | omega | (dsimp only; omega)⟩ ⟨by first | decide | omega | (dsimp only; omega), by first | decide | omega | (dsimp only; omega)⟩ (Nat.le_of_ble_eq_true rfl) rfl d_Mo_integer_31 (fun r z9 H locs hp V1 => ?_)
  obtain ⟨rfl, X2⟩ := hp
  have X := X.then X2
  have V := V1
  refine W.eq (g2 := F0 m 34 ls [.int (gh_bi false)]) rfl ?_
  refine lv_if_eq (tgt := 41) hx hb d_Mo_integer_34 (by decide) (fun c3 => ?_) (fun c3 => absurd (by decide) c3)
  refine lv_aload_n hx hb d_Mo_integer_41 rfl (lv_at hl 1 rfl) ?_
  refine mo_getA C V X 2 (by decide) (by decide) f_Mo_13 rfl d_Mo_integer_42 ?_
  refine lv_aload_n hx hb d_Mo_integer_45 rfl (lv_at hl 1 rfl) ?_
  refine lv_iload_n hx hb d_Mo_integer_46 rfl (lv_at hl 2 rfl) ?_
  refine gh_callV C V hl.1 m_Mo_valueOf l_Mo_413 (c_Mo_valueOf l E _ _ a ad _ _ _ k vv X.1 (by first | exact hv | exact hv.s (by decide))) rfl X.1.1 gc_Mo ⟨by first | decide | omega | (dsimp only; omega), by first | decide | omega | (dsimp only; omega)⟩ ⟨by first | decide | omega | (dsimp only; omega), by first | decide | omega | (dsimp only; omega)⟩ (Nat.le_of_ble_eq_true rfl) rfl d_Mo_integer_47 (fun r z9 H locs hp V1 => ?_)
  obtain ⟨rfl, he9⟩ := hp
  rw [he9] at V1
  have V := V1
  refine W.eq (g2 := F0 m 50 ls [.int (nI vv), .ref (ad 2)]) rfl ?_
  refine mo_lld (k := 2) (i := vv) (n := 760) C V X (by decide) (by decide) rfl (by omega) (by decide) d_Mo_integer_50 ?_
  refine gh_retl hAe C V hr hlocks d_Mo_integer_51 (by first | decide | omega | (dsimp only; omega)) (by first | decide | omega | (dsimp only; omega)) ?_
  exact ⟨rfl, X⟩
theorem d_Mo_adopt_0 : decode b_Mo_adopt 0 = .ok (.aload_n 0, 1) := by decide +kernel
theorem d_Mo_adopt_1 : decode b_Mo_adopt 1 = .ok (.iload_n 1, 1) := by decide +kernel
theorem d_Mo_adopt_2 : decode b_Mo_adopt 2 = .ok (.aload_n 0, 1) := by decide +kernel
theorem d_Mo_adopt_3 : decode b_Mo_adopt 3 = .ok (.getfield 296, 3) := by decide +kernel
theorem d_Mo_adopt_6 : decode b_Mo_adopt 6 = .ok (.invokestatic 354, 3) := by decide +kernel
theorem d_Mo_adopt_9 : decode b_Mo_adopt 9 = .ok (.iconst 0, 1) := by decide +kernel
theorem d_Mo_adopt_10 : decode b_Mo_adopt 10 = .ok (.invokevirtual 251, 3) := by decide +kernel
theorem d_Mo_adopt_13 : decode b_Mo_adopt 13 = .ok (.ifCond .eq 4, 3) := by decide +kernel
theorem d_Mo_adopt_16 : decode b_Mo_adopt 16 = .ok (.return_, 1) := by decide +kernel
theorem d_Mo_adopt_17 : decode b_Mo_adopt 17 = .ok (.aload_n 0, 1) := by decide +kernel
theorem d_Mo_adopt_18 : decode b_Mo_adopt 18 = .ok (.aload_n 0, 1) := by decide +kernel
theorem d_Mo_adopt_19 : decode b_Mo_adopt 19 = .ok (.aload_n 0, 1) := by decide +kernel
theorem d_Mo_adopt_20 : decode b_Mo_adopt 20 = .ok (.getfield 121, 3) := by decide +kernel
theorem d_Mo_adopt_23 : decode b_Mo_adopt 23 = .ok (.iload_n 1, 1) := by decide +kernel
theorem d_Mo_adopt_24 : decode b_Mo_adopt 24 = .ok (.iaload, 1) := by decide +kernel
theorem d_Mo_adopt_25 : decode b_Mo_adopt 25 = .ok (.bipush 29, 2) := by decide +kernel
theorem d_Mo_adopt_27 : decode b_Mo_adopt 27 = .ok (.iconst 0, 1) := by decide +kernel
theorem d_Mo_adopt_28 : decode b_Mo_adopt 28 = .ok (.invokevirtual 292, 3) := by decide +kernel
theorem d_Mo_adopt_31 : decode b_Mo_adopt 31 = .ok (.putfield 259, 3) := by decide +kernel
theorem d_Mo_adopt_34 : decode b_Mo_adopt 34 = .ok (.return_, 1) := by decide +kernel
set_option maxHeartbeats 4000000 in
set_option maxRecDepth 100000 in
theorem c_Mo_adopt0 (l : Launch) (E : gh_E) (sz : Nat) (f : gh_F) (a : Nat) (ad : Nat → Nat) (S : Nat → Int32) (I : Nat → Nat → Int32) (J : Nat → Nat → Int64) (k : Int32) (hX : mo_R E f a ad S I J) (hno : (decide (k < 0) || !decide (k < S 51)) = true) : gh_M l y_Mo_adopt b_Mo_adopt 2 none E sz [.ref a, .int k] f { frames := 9, cells := 0, slots := 0, locals := 260 } (fun r g => r = none ∧ mo_X E f g a ad (va_up S 0 1) I J) := by
  refine gh_open (by decide) (Nat.le_of_ble_eq_true rfl) ?_
  intro p e s m args below meth c A ls hAe C V hr hlocks hname hl
  have hx := C.1
  have hb := C.2.1
  have hl : lv_has ls 2 [(0, .ref a), (1, .int k)] := hl
  have X : mo_X E f f a ad S I J := ⟨hX, gh_fr.rf⟩
  refine lv_aload_n hx hb d_Mo_adopt_0 rfl (lv_at hl 0 rfl) ?_
  refine lv_iload_n hx hb d_Mo_adopt_1 rfl (lv_at hl 1 rfl) ?_
  refine lv_aload_n hx hb d_Mo_adopt_2 rfl (lv_at hl 0 rfl) ?_
  refine mo_getS (v := S 51) C V X 51 (by decide) (by decide) (by first | rfl | exact hS51) f_Mo_296 rfl d_Mo_adopt_3 ?_
  refine gh_callS C V hl.1 m_Mo_out l_Mo_354 (c_Mo_out l E _ _ k (S 51)) rfl ⟨by first | decide | omega | (dsimp only; omega), by first | decide | omega | (dsimp only; omega)⟩ ⟨by first | decide | omega | (dsimp only; omega), by first | decide | omega | (dsimp only; omega)⟩ (Nat.le_of_ble_eq_true rfl) rfl d_Mo_adopt_6 (fun r z9 H locs hp V1 => ?_)
  obtain ⟨rfl, he9⟩ := hp
  rw [he9] at V1
  have V := V1
  rw [hno]
  refine W.eq (g2 := F0 m 9 ls [.int (gh_bi true), .ref a]) rfl ?_
  refine lv_iconst (v := 0) hx hb d_Mo_adopt_9 (by decide) ?_
  refine W.eq (g2 := F0 m 10 ls [.int (gh_bi false), .int (gh_bi true), .ref a]) rfl ?_
  refine gh_callV C V hl.1 m_Mo_throwing l_Mo_251 (c_Mo_throwing l E _ _ a ad _ _ _ true false X.1) rfl X.1.1 gc_Mo ⟨by first | decide | omega | (dsimp only; omega), by first | decide | omega | (dsimp only; omega)⟩ ⟨by first | decide | omega | (dsimp only; omega), by first | decide | omega | (dsimp only; omega)⟩ (Nat.le_of_ble_eq_true rfl) rfl d_Mo_adopt_10 (fun r z9 H locs hp V1 => ?_)
  obtain ⟨rfl, X2⟩ := hp
  have X := X.then X2
  have V := V1
  refine W.eq (g2 := F0 m 13 ls [.int (gh_bi true)]) rfl ?_
  refine lv_if_eq (tgt := 17) hx hb d_Mo_adopt_13 (by decide) (fun c1 => absurd c1 (by decide)) (fun c1 => ?_)
  refine gh_retv hAe C V hr hlocks d_Mo_adopt_16 (by first | decide | omega | (dsimp only; omega)) (by first | decide | omega | (dsimp only; omega)) ?_
  exact ⟨rfl, X⟩
set_option maxHeartbeats 4000000 in
set_option maxRecDepth 100000 in
theorem c_Mo_adopt1 (l : Launch) (E : gh_E) (sz : Nat) (f : gh_F) (a : Nat) (ad : Nat → Nat) (S : Nat → Int32) (I : Nat → Nat → Int32) (J : Nat → Nat → Int64) (jj vv nv1 np1 : Nat) (O : vt) (hX : mo_R E f a ad S I J) (hno : (decide (nI jj < 0) || !decide (nI jj < S 51)) = false) (hj : jj < 16) (h50 : I 50 jj = nI vv) (hO : mw I J 260 nv1 300 np1 vv O) (hc0 : mc I J 260 nv1 300 np1) : gh_M l y_Mo_adopt b_Mo_adopt 2 none E sz [.ref a, .int (nI jj)] f { frames := 9, cells := 0, slots := 0, locals := 260 } (fun r g => r = none ∧ ∃ S2 I2 J2 root, mo_X E f g a ad (va_up S2 17 (nI root)) I2 J2 ∧ cp_R 260 nv1 300 np1 29 0 O (va_up S 0 0) I J root S2 I2 J2) := by
  refine gh_open (by decide) (Nat.le_of_ble_eq_true rfl) ?_
  intro p e s m args below meth c A ls hAe C V hr hlocks hname hl
  have hx := C.1
  have hb := C.2.1
  have hl : lv_has ls 2 [(0, .ref a), (1, .int (nI jj))] := hl
  have X : mo_X E f f a ad S I J := ⟨hX, gh_fr.rf⟩
  refine lv_aload_n hx hb d_Mo_adopt_0 rfl (lv_at hl 0 rfl) ?_
  refine lv_iload_n hx hb d_Mo_adopt_1 rfl (lv_at hl 1 rfl) ?_
  refine lv_aload_n hx hb d_Mo_adopt_2 rfl (lv_at hl 0 rfl) ?_
  refine mo_getS (v := S 51) C V X 51 (by decide) (by decide) (by first | rfl | exact hS51) f_Mo_296 rfl d_Mo_adopt_3 ?_
  refine gh_callS C V hl.1 m_Mo_out l_Mo_354 (c_Mo_out l E _ _ (nI jj) (S 51)) rfl ⟨by first | decide | omega | (dsimp only; omega), by first | decide | omega | (dsimp only; omega)⟩ ⟨by first | decide | omega | (dsimp only; omega), by first | decide | omega | (dsimp only; omega)⟩ (Nat.le_of_ble_eq_true rfl) rfl d_Mo_adopt_6 (fun r z9 H locs hp V1 => ?_)
  obtain ⟨rfl, he9⟩ := hp
  rw [he9] at V1
  have V := V1
  rw [hno]
  refine W.eq (g2 := F0 m 9 ls [.int (gh_bi false), .ref a]) rfl ?_
  refine lv_iconst (v := 0) hx hb d_Mo_adopt_9 (by decide) ?_
  refine W.eq (g2 := F0 m 10 ls [.int (gh_bi false), .int (gh_bi false), .ref a]) rfl ?_
  refine gh_callV C V hl.1 m_Mo_throwing l_Mo_251 (c_Mo_throwing l E _ _ a ad _ _ _ false false X.1) rfl X.1.1 gc_Mo ⟨by first | decide | omega | (dsimp only; omega), by first | decide | omega | (dsimp only; omega)⟩ ⟨by first | decide | omega | (dsimp only; omega), by first | decide | omega | (dsimp only; omega)⟩ (Nat.le_of_ble_eq_true rfl) rfl d_Mo_adopt_10 (fun r z9 H locs hp V1 => ?_)
  obtain ⟨rfl, X2⟩ := hp
  have X := X.then X2
  have V := V1
  refine W.eq (g2 := F0 m 13 ls [.int (gh_bi false)]) rfl ?_
  refine lv_if_eq (tgt := 17) hx hb d_Mo_adopt_13 (by decide) (fun c1 => ?_) (fun c1 => absurd (by decide) c1)
  refine lv_aload_n hx hb d_Mo_adopt_17 rfl (lv_at hl 0 rfl) ?_
  refine lv_aload_n hx hb d_Mo_adopt_18 rfl (lv_at hl 0 rfl) ?_
  refine lv_aload_n hx hb d_Mo_adopt_19 rfl (lv_at hl 0 rfl) ?_
  refine mo_getA C V X 50 (by decide) (by decide) f_Mo_121 rfl d_Mo_adopt_20 ?_
  refine lv_iload_n hx hb d_Mo_adopt_23 rfl (lv_at hl 1 rfl) ?_
  refine mo_ild (k := 50) (i := jj) (n := 16) C V X (by decide) (by decide) rfl (by omega) (by decide) d_Mo_adopt_24 ?_
  rw [show I 50 jj = nI vv from h50]
  refine lv_bipush (v := 29) hx hb d_Mo_adopt_25 (by decide) ?_
  refine lv_iconst (v := 0) hx hb d_Mo_adopt_27 (by decide) ?_
  refine W.eq (g2 := F0 m 28 ls [.int (nI 0), .int (nI 29), .int (nI vv), .ref a, .ref a]) rfl ?_
  refine gh_callV C V hl.1 m_Mo_copied l_Mo_292 (c_Mo_copied l E _ _ a ad _ _ _ 260 nv1 300 np1 29 0 vv O X.1 hO hc0 (by decide) (by decide) (by decide) (fun q hq => by rcases hq.1 with h | h <;> omega) (fun q h1 h2 => by omega)) rfl X.1.1 gc_Mo ⟨by first | decide | omega | (dsimp only; omega), by first | decide | omega | (dsimp only; omega)⟩ ⟨by first | decide | omega | (dsimp only; omega), by first | decide | omega | (dsimp only; omega)⟩ (Nat.le_of_ble_eq_true rfl) rfl d_Mo_adopt_28 (fun r z9 H locs hp V1 => ?_)
  obtain ⟨root, rfl, S2, I2, J2, X2, hcp⟩ := hp
  have X := X.then X2
  have V := V1
  refine W.eq (g2 := F0 m 31 ls [.int (nI root), .ref a]) rfl ?_
  refine mo_putS C V X 17 (by decide) (by decide) f_Mo_259 rfl rfl rfl d_Mo_adopt_31 (fun f1 H locs V1 X1 => ?_)
  clear V X
  have V := V1
  have X := X1
  clear V1 X1
  refine gh_retv hAe C V hr hlocks d_Mo_adopt_34 (by first | decide | omega | (dsimp only; omega)) (by first | decide | omega | (dsimp only; omega)) ?_
  exact ⟨rfl, _, _, _, root, X, hcp⟩
theorem d_Mo_text_0 : decode b_Mo_text 0 = .ok (.iload_n 3, 1) := by decide +kernel
theorem d_Mo_text_1 : decode b_Mo_text 1 = .ok (.iconst 1, 1) := by decide +kernel
theorem d_Mo_text_2 : decode b_Mo_text 2 = .ok (.if_icmp .lt 9, 3) := by decide +kernel
theorem d_Mo_text_5 : decode b_Mo_text 5 = .ok (.iload_n 3, 1) := by decide +kernel
theorem d_Mo_text_6 : decode b_Mo_text 6 = .ok (.bipush 8, 2) := by decide +kernel
theorem d_Mo_text_8 : decode b_Mo_text 8 = .ok (.if_icmp .le 7, 3) := by decide +kernel
theorem d_Mo_text_11 : decode b_Mo_text 11 = .ok (.iconst 1, 1) := by decide +kernel
theorem d_Mo_text_12 : decode b_Mo_text 12 = .ok (.goto 4, 3) := by decide +kernel
theorem d_Mo_text_15 : decode b_Mo_text 15 = .ok (.iconst 0, 1) := by decide +kernel
theorem d_Mo_text_16 : decode b_Mo_text 16 = .ok (.istore 4, 2) := by decide +kernel
theorem d_Mo_text_18 : decode b_Mo_text 18 = .ok (.iconst 0, 1) := by decide +kernel
theorem d_Mo_text_19 : decode b_Mo_text 19 = .ok (.istore 5, 2) := by decide +kernel
theorem d_Mo_text_21 : decode b_Mo_text 21 = .ok (.iload 5, 2) := by decide +kernel
theorem d_Mo_text_23 : decode b_Mo_text 23 = .ok (.iload_n 3, 1) := by decide +kernel
theorem d_Mo_text_24 : decode b_Mo_text 24 = .ok (.if_icmp .ge 57, 3) := by decide +kernel
theorem d_Mo_text_27 : decode b_Mo_text 27 = .ok (.iload 4, 2) := by decide +kernel
theorem d_Mo_text_29 : decode b_Mo_text 29 = .ok (.ifCond .ne 52, 3) := by decide +kernel
theorem d_Mo_text_32 : decode b_Mo_text 32 = .ok (.lload_n 1, 1) := by decide +kernel
theorem d_Mo_text_33 : decode b_Mo_text 33 = .ok (.bipush 8, 2) := by decide +kernel
theorem d_Mo_text_35 : decode b_Mo_text 35 = .ok (.iload 5, 2) := by decide +kernel
theorem d_Mo_text_37 : decode b_Mo_text 37 = .ok (.imul, 1) := by decide +kernel
theorem d_Mo_text_38 : decode b_Mo_text 38 = .ok (.lshr, 1) := by decide +kernel
theorem d_Mo_text_39 : decode b_Mo_text 39 = .ok (.ldc2_w 144, 3) := by decide +kernel
theorem d_Mo_text_42 : decode b_Mo_text 42 = .ok (.land, 1) := by decide +kernel
theorem d_Mo_text_43 : decode b_Mo_text 43 = .ok (.ldc2_w 247, 3) := by decide +kernel
theorem d_Mo_text_46 : decode b_Mo_text 46 = .ok (.lcmp, 1) := by decide +kernel
theorem d_Mo_text_47 : decode b_Mo_text 47 = .ok (.ifCond .lt 21, 3) := by decide +kernel
theorem d_Mo_text_50 : decode b_Mo_text 50 = .ok (.lload_n 1, 1) := by decide +kernel
theorem d_Mo_text_51 : decode b_Mo_text 51 = .ok (.bipush 8, 2) := by decide +kernel
theorem d_Mo_text_53 : decode b_Mo_text 53 = .ok (.iload 5, 2) := by decide +kernel
theorem d_Mo_text_55 : decode b_Mo_text 55 = .ok (.imul, 1) := by decide +kernel
theorem d_Mo_text_56 : decode b_Mo_text 56 = .ok (.lshr, 1) := by decide +kernel
theorem d_Mo_text_57 : decode b_Mo_text 57 = .ok (.ldc2_w 144, 3) := by decide +kernel
theorem d_Mo_text_60 : decode b_Mo_text 60 = .ok (.land, 1) := by decide +kernel
theorem d_Mo_text_61 : decode b_Mo_text 61 = .ok (.ldc2_w 249, 3) := by decide +kernel
theorem d_Mo_text_64 : decode b_Mo_text 64 = .ok (.lcmp, 1) := by decide +kernel
theorem d_Mo_text_65 : decode b_Mo_text 65 = .ok (.ifCond .le 7, 3) := by decide +kernel
theorem d_Mo_text_68 : decode b_Mo_text 68 = .ok (.iconst 1, 1) := by decide +kernel
theorem d_Mo_text_69 : decode b_Mo_text 69 = .ok (.goto 4, 3) := by decide +kernel
theorem d_Mo_text_72 : decode b_Mo_text 72 = .ok (.iconst 0, 1) := by decide +kernel
theorem d_Mo_text_73 : decode b_Mo_text 73 = .ok (.istore 4, 2) := by decide +kernel
theorem d_Mo_text_75 : decode b_Mo_text 75 = .ok (.iinc 5 1, 3) := by decide +kernel
theorem d_Mo_text_78 : decode b_Mo_text 78 = .ok (.goto (-57), 3) := by decide +kernel
theorem d_Mo_text_81 : decode b_Mo_text 81 = .ok (.aload_n 0, 1) := by decide +kernel
theorem d_Mo_text_82 : decode b_Mo_text 82 = .ok (.iload 4, 2) := by decide +kernel
theorem d_Mo_text_84 : decode b_Mo_text 84 = .ok (.iload 4, 2) := by decide +kernel
theorem d_Mo_text_86 : decode b_Mo_text 86 = .ok (.ifCond .ne 18, 3) := by decide +kernel
theorem d_Mo_text_89 : decode b_Mo_text 89 = .ok (.aload_n 0, 1) := by decide +kernel
theorem d_Mo_text_90 : decode b_Mo_text 90 = .ok (.getfield 182, 3) := by decide +kernel
theorem d_Mo_text_93 : decode b_Mo_text 93 = .ok (.iload_n 3, 1) := by decide +kernel
theorem d_Mo_text_94 : decode b_Mo_text 94 = .ok (.iadd, 1) := by decide +kernel
theorem d_Mo_text_95 : decode b_Mo_text 95 = .ok (.bipush 120, 2) := by decide +kernel
theorem d_Mo_text_97 : decode b_Mo_text 97 = .ok (.if_icmp .le 7, 3) := by decide +kernel
theorem d_Mo_text_100 : decode b_Mo_text 100 = .ok (.iconst 1, 1) := by decide +kernel
theorem d_Mo_text_101 : decode b_Mo_text 101 = .ok (.goto 4, 3) := by decide +kernel
theorem d_Mo_text_104 : decode b_Mo_text 104 = .ok (.iconst 0, 1) := by decide +kernel
theorem d_Mo_text_105 : decode b_Mo_text 105 = .ok (.invokevirtual 251, 3) := by decide +kernel
theorem d_Mo_text_108 : decode b_Mo_text 108 = .ok (.ifCond .eq 4, 3) := by decide +kernel
theorem d_Mo_text_111 : decode b_Mo_text 111 = .ok (.return_, 1) := by decide +kernel
theorem d_Mo_text_112 : decode b_Mo_text 112 = .ok (.iload_n 3, 1) := by decide +kernel
theorem d_Mo_text_113 : decode b_Mo_text 113 = .ok (.iconst 1, 1) := by decide +kernel
theorem d_Mo_text_114 : decode b_Mo_text 114 = .ok (.isub, 1) := by decide +kernel
theorem d_Mo_text_115 : decode b_Mo_text 115 = .ok (.istore 5, 2) := by decide +kernel
theorem d_Mo_text_117 : decode b_Mo_text 117 = .ok (.iload 5, 2) := by decide +kernel
theorem d_Mo_text_119 : decode b_Mo_text 119 = .ok (.ifCond .lt 40, 3) := by decide +kernel
theorem d_Mo_text_122 : decode b_Mo_text 122 = .ok (.aload_n 0, 1) := by decide +kernel
theorem d_Mo_text_123 : decode b_Mo_text 123 = .ok (.getfield 54, 3) := by decide +kernel
theorem d_Mo_text_126 : decode b_Mo_text 126 = .ok (.aload_n 0, 1) := by decide +kernel
theorem d_Mo_text_127 : decode b_Mo_text 127 = .ok (.getfield 182, 3) := by decide +kernel
theorem d_Mo_text_130 : decode b_Mo_text 130 = .ok (.lload_n 1, 1) := by decide +kernel
theorem d_Mo_text_131 : decode b_Mo_text 131 = .ok (.bipush 8, 2) := by decide +kernel
theorem d_Mo_text_133 : decode b_Mo_text 133 = .ok (.iload 5, 2) := by decide +kernel
theorem d_Mo_text_135 : decode b_Mo_text 135 = .ok (.imul, 1) := by decide +kernel
theorem d_Mo_text_136 : decode b_Mo_text 136 = .ok (.lshr, 1) := by decide +kernel
theorem d_Mo_text_137 : decode b_Mo_text 137 = .ok (.ldc2_w 144, 3) := by decide +kernel
theorem d_Mo_text_140 : decode b_Mo_text 140 = .ok (.land, 1) := by decide +kernel
theorem d_Mo_text_141 : decode b_Mo_text 141 = .ok (.l2i, 1) := by decide +kernel
theorem d_Mo_text_142 : decode b_Mo_text 142 = .ok (.iastore, 1) := by decide +kernel
theorem d_Mo_text_143 : decode b_Mo_text 143 = .ok (.aload_n 0, 1) := by decide +kernel
theorem d_Mo_text_144 : decode b_Mo_text 144 = .ok (.dup, 1) := by decide +kernel
theorem d_Mo_text_145 : decode b_Mo_text 145 = .ok (.getfield 182, 3) := by decide +kernel
theorem d_Mo_text_148 : decode b_Mo_text 148 = .ok (.iconst 1, 1) := by decide +kernel
theorem d_Mo_text_149 : decode b_Mo_text 149 = .ok (.iadd, 1) := by decide +kernel
theorem d_Mo_text_150 : decode b_Mo_text 150 = .ok (.putfield 182, 3) := by decide +kernel
theorem d_Mo_text_153 : decode b_Mo_text 153 = .ok (.iinc 5 (-1), 3) := by decide +kernel
theorem d_Mo_text_156 : decode b_Mo_text 156 = .ok (.goto (-39), 3) := by decide +kernel
theorem d_Mo_text_159 : decode b_Mo_text 159 = .ok (.return_, 1) := by decide +kernel
set_option maxHeartbeats 4000000 in
set_option maxRecDepth 100000 in
theorem c_Mo_text0 (l : Launch) (E : gh_E) (sz : Nat) (f : gh_F) (a : Nat) (ad : Nat → Nat) (S : Nat → Int32) (I : Nat → Nat → Int32) (J : Nat → Nat → Int64) (x : Int64) (y : Int32) (hX : mo_R E f a ad S I J) (hy : ¬ (1 ≤ y ∧ y ≤ 8)) : gh_M l y_Mo_text b_Mo_text 6 none E sz [.ref a, .long x, .int y] f { frames := 5, cells := 0, slots := 0, locals := 140 } (fun r g => r = none ∧ mo_X E f g a ad (va_up S 0 1) I J) := by
  refine gh_open (by decide) (Nat.le_of_ble_eq_true rfl) ?_
  intro p e s m args below meth c A ls hAe C V hr hlocks hname hl
  have hx := C.1
  have hb := C.2.1
  have hl : lv_has ls 6 [(0, .ref a), (1, .long x), (3, .int y)] := hl
  have X : mo_X E f f a ad S I J := ⟨hX, gh_fr.rf⟩
  refine lv_iload_n hx hb d_Mo_text_0 rfl (lv_at hl 2 rfl) ?_
  refine lv_iconst (v := 1) hx hb d_Mo_text_1 (by decide) ?_
  refine lv_icmp_lt (tgt := 11) hx hb d_Mo_text_2 (by decide) (fun c1 => ?_) (fun c1 => ?_)
  · refine lv_iconst (v := 1) hx hb d_Mo_text_11 (by decide) ?_
    refine lv_goto (tgt := 16) hx hb d_Mo_text_12 (by decide) ?_
    refine lv_istore hx hb d_Mo_text_16 hl (by decide) rfl (fun ls hl => ?_)
    have hl : lv_has ls 6 [(4, .int 1), (0, .ref a), (1, .long x), (3, .int y)] := hl
    refine lv_iconst (v := 0) hx hb d_Mo_text_18 (by decide) ?_
    refine lv_istore hx hb d_Mo_text_19 hl (by decide) rfl (fun ls hl => ?_)
    have hl : lv_has ls 6 [(5, .int 0), (4, .int 1), (0, .ref a), (1, .long x), (3, .int y)] := hl
    refine lv_iload hx hb d_Mo_text_21 (lv_at hl 0 rfl) ?_
    refine lv_iload_n hx hb d_Mo_text_23 rfl (lv_at hl 4 rfl) ?_
    refine lv_icmp_ge (tgt := 81) hx hb d_Mo_text_24 (by decide) (fun c2 => ?_) (fun c2 => ?_)
    · refine lv_aload_n hx hb d_Mo_text_81 rfl (lv_at hl 2 rfl) ?_
      refine lv_iload hx hb d_Mo_text_82 (lv_at hl 1 rfl) ?_
      refine lv_iload hx hb d_Mo_text_84 (lv_at hl 1 rfl) ?_
      refine lv_if_ne (tgt := 104) hx hb d_Mo_text_86 (by decide) (fun c3 => ?_) (fun c3 => absurd c3 (by decide))
      refine lv_iconst (v := 0) hx hb d_Mo_text_104 (by decide) ?_
      refine W.eq (g2 := F0 m 105 ls [.int (gh_bi false), .int (gh_bi true), .ref a]) rfl ?_
      refine gh_callV C V hl.1 m_Mo_throwing l_Mo_251 (c_Mo_throwing l E _ _ a ad _ _ _ true false X.1) rfl X.1.1 gc_Mo ⟨by first | decide | omega | (dsimp only; omega), by first | decide | omega | (dsimp only; omega)⟩ ⟨by first | decide | omega | (dsimp only; omega), by first | decide | omega | (dsimp only; omega)⟩ (Nat.le_of_ble_eq_true rfl) rfl d_Mo_text_105 (fun r z9 H locs hp V1 => ?_)
      obtain ⟨rfl, X2⟩ := hp
      have X := X.then X2
      have V := V1
      refine W.eq (g2 := F0 m 108 ls [.int (gh_bi true)]) rfl ?_
      refine lv_if_eq (tgt := 112) hx hb d_Mo_text_108 (by decide) (fun c4 => absurd c4 (by decide)) (fun c4 => ?_)
      refine gh_retv hAe C V hr hlocks d_Mo_text_111 (by first | decide | omega | (dsimp only; omega)) (by first | decide | omega | (dsimp only; omega)) ?_
      exact ⟨rfl, X⟩
    · refine lv_iload hx hb d_Mo_text_27 (lv_at hl 1 rfl) ?_
      refine lv_if_ne (tgt := 81) hx hb d_Mo_text_29 (by decide) (fun c5 => ?_) (fun c5 => absurd c5 (by decide))
      refine lv_aload_n hx hb d_Mo_text_81 rfl (lv_at hl 2 rfl) ?_
      refine lv_iload hx hb d_Mo_text_82 (lv_at hl 1 rfl) ?_
      refine lv_iload hx hb d_Mo_text_84 (lv_at hl 1 rfl) ?_
      refine lv_if_ne (tgt := 104) hx hb d_Mo_text_86 (by decide) (fun c6 => ?_) (fun c6 => absurd c6 (by decide))
      refine lv_iconst (v := 0) hx hb d_Mo_text_104 (by decide) ?_
      refine W.eq (g2 := F0 m 105 ls [.int (gh_bi false), .int (gh_bi true), .ref a]) rfl ?_
      refine gh_callV C V hl.1 m_Mo_throwing l_Mo_251 (c_Mo_throwing l E _ _ a ad _ _ _ true false X.1) rfl X.1.1 gc_Mo ⟨by first | decide | omega | (dsimp only; omega), by first | decide | omega | (dsimp only; omega)⟩ ⟨by first | decide | omega | (dsimp only; omega), by first | decide | omega | (dsimp only; omega)⟩ (Nat.le_of_ble_eq_true rfl) rfl d_Mo_text_105 (fun r z9 H locs hp V1 => ?_)
      obtain ⟨rfl, X2⟩ := hp
      have X := X.then X2
      have V := V1
      refine W.eq (g2 := F0 m 108 ls [.int (gh_bi true)]) rfl ?_
      refine lv_if_eq (tgt := 112) hx hb d_Mo_text_108 (by decide) (fun c7 => absurd c7 (by decide)) (fun c7 => ?_)
      refine gh_retv hAe C V hr hlocks d_Mo_text_111 (by first | decide | omega | (dsimp only; omega)) (by first | decide | omega | (dsimp only; omega)) ?_
      exact ⟨rfl, X⟩
  · refine lv_iload_n hx hb d_Mo_text_5 rfl (lv_at hl 2 rfl) ?_
    refine lv_bipush (v := 8) hx hb d_Mo_text_6 (by decide) ?_
    refine lv_icmp_le (tgt := 15) hx hb d_Mo_text_8 (by decide) (fun c8 => absurd c8 (fun z => hy ⟨by first | exact Int32.not_lt.mp c1 | exact c1, z⟩)) (fun c8 => ?_)
    refine lv_iconst (v := 1) hx hb d_Mo_text_11 (by decide) ?_
    refine lv_goto (tgt := 16) hx hb d_Mo_text_12 (by decide) ?_
    refine lv_istore hx hb d_Mo_text_16 hl (by decide) rfl (fun ls hl => ?_)
    have hl : lv_has ls 6 [(4, .int 1), (0, .ref a), (1, .long x), (3, .int y)] := hl
    refine lv_iconst (v := 0) hx hb d_Mo_text_18 (by decide) ?_
    refine lv_istore hx hb d_Mo_text_19 hl (by decide) rfl (fun ls hl => ?_)
    have hl : lv_has ls 6 [(5, .int 0), (4, .int 1), (0, .ref a), (1, .long x), (3, .int y)] := hl
    refine lv_iload hx hb d_Mo_text_21 (lv_at hl 0 rfl) ?_
    refine lv_iload_n hx hb d_Mo_text_23 rfl (lv_at hl 4 rfl) ?_
    refine lv_icmp_ge (tgt := 81) hx hb d_Mo_text_24 (by decide) (fun c9 => ?_) (fun c9 => ?_)
    · refine lv_aload_n hx hb d_Mo_text_81 rfl (lv_at hl 2 rfl) ?_
      refine lv_iload hx hb d_Mo_text_82 (lv_at hl 1 rfl) ?_
      refine lv_iload hx hb d_Mo_text_84 (lv_at hl 1 rfl) ?_
      refine lv_if_ne (tgt := 104) hx hb d_Mo_text_86 (by decide) (fun c10 => ?_) (fun c10 => absurd c10 (by decide))
      refine lv_iconst (v := 0) hx hb d_Mo_text_104 (by decide) ?_
      refine W.eq (g2 := F0 m 105 ls [.int (gh_bi false), .int (gh_bi true), .ref a]) rfl ?_
      refine gh_callV C V hl.1 m_Mo_throwing l_Mo_251 (c_Mo_throwing l E _ _ a ad _ _ _ true false X.1) rfl X.1.1 gc_Mo ⟨by first | decide | omega | (dsimp only; omega), by first | decide | omega | (dsimp only; omega)⟩ ⟨by first | decide | omega | (dsimp only; omega), by first | decide | omega | (dsimp only; omega)⟩ (Nat.le_of_ble_eq_true rfl) rfl d_Mo_text_105 (fun r z9 H locs hp V1 => ?_)
      obtain ⟨rfl, X2⟩ := hp
      have X := X.then X2
      have V := V1
      refine W.eq (g2 := F0 m 108 ls [.int (gh_bi true)]) rfl ?_
      refine lv_if_eq (tgt := 112) hx hb d_Mo_text_108 (by decide) (fun c11 => absurd c11 (by decide)) (fun c11 => ?_)
      refine gh_retv hAe C V hr hlocks d_Mo_text_111 (by first | decide | omega | (dsimp only; omega)) (by first | decide | omega | (dsimp only; omega)) ?_
      exact ⟨rfl, X⟩
    · refine lv_iload hx hb d_Mo_text_27 (lv_at hl 1 rfl) ?_
      refine lv_if_ne (tgt := 81) hx hb d_Mo_text_29 (by decide) (fun c12 => ?_) (fun c12 => absurd c12 (by decide))
      refine lv_aload_n hx hb d_Mo_text_81 rfl (lv_at hl 2 rfl) ?_
      refine lv_iload hx hb d_Mo_text_82 (lv_at hl 1 rfl) ?_
      refine lv_iload hx hb d_Mo_text_84 (lv_at hl 1 rfl) ?_
      refine lv_if_ne (tgt := 104) hx hb d_Mo_text_86 (by decide) (fun c13 => ?_) (fun c13 => absurd c13 (by decide))
      refine lv_iconst (v := 0) hx hb d_Mo_text_104 (by decide) ?_
      refine W.eq (g2 := F0 m 105 ls [.int (gh_bi false), .int (gh_bi true), .ref a]) rfl ?_
      refine gh_callV C V hl.1 m_Mo_throwing l_Mo_251 (c_Mo_throwing l E _ _ a ad _ _ _ true false X.1) rfl X.1.1 gc_Mo ⟨by first | decide | omega | (dsimp only; omega), by first | decide | omega | (dsimp only; omega)⟩ ⟨by first | decide | omega | (dsimp only; omega), by first | decide | omega | (dsimp only; omega)⟩ (Nat.le_of_ble_eq_true rfl) rfl d_Mo_text_105 (fun r z9 H locs hp V1 => ?_)
      obtain ⟨rfl, X2⟩ := hp
      have X := X.then X2
      have V := V1
      refine W.eq (g2 := F0 m 108 ls [.int (gh_bi true)]) rfl ?_
      refine lv_if_eq (tgt := 112) hx hb d_Mo_text_108 (by decide) (fun c14 => absurd c14 (by decide)) (fun c14 => ?_)
      refine gh_retv hAe C V hr hlocks d_Mo_text_111 (by first | decide | omega | (dsimp only; omega)) (by first | decide | omega | (dsimp only; omega)) ?_
      exact ⟨rfl, X⟩
set_option maxHeartbeats 4000000 in
set_option maxRecDepth 100000 in
theorem c_Mo_text (l : Launch) (E : gh_E) (sz : Nat) (f : gh_F) (a : Nat) (ad : Nat → Nat) (S : Nat → Int32) (I : Nat → Nat → Int32) (J : Nat → Nat → Int64) (x : Int64) (mm N : Nat) (hX : mo_R E f a ad S I J) (hm : 1 ≤ mm ∧ mm ≤ 8) (hN : N ≤ 120) (hS20 : S 20 = nI N) : gh_M l y_Mo_text b_Mo_text 6 none E sz [.ref a, .long x, .int (nI mm)] f { frames := 5, cells := 0, slots := 0, locals := 140 } (fun r g => r = none ∧ (¬ (∀ k, k < mm → by_ok x k) → mo_X E f g a ad (va_up S 0 1) I J) ∧ ((∀ k, k < mm → by_ok x k) → 120 < N + mm → mo_X E f g a ad (va_up S 0 2) I J) ∧ ((∀ k, k < mm → by_ok x k) → N + mm ≤ 120 → ∃ S2 I2, mo_X E f g a ad S2 I2 J ∧ (∀ k, k ≠ 20 → S2 k = va_up S 0 0 k) ∧ S2 20 = nI (N + mm) ∧ (∀ k, k ≠ 19 → I2 k = I k) ∧ ∀ j, I2 19 j = if N ≤ j ∧ j < N + mm then nI (by_n x (mm - 1 - (j - N))) else I 19 j)) := by
  refine gh_open (by decide) (Nat.le_of_ble_eq_true rfl) ?_
  intro p e s m args below meth c A ls hAe C V hr hlocks hname hl
  have hx := C.1
  have hb := C.2.1
  have hl : lv_has ls 6 [(0, .ref a), (1, .long x), (3, .int (nI mm))] := hl
  have X : mo_X E f f a ad S I J := ⟨hX, gh_fr.rf⟩
  refine lv_iload_n hx hb d_Mo_text_0 rfl (lv_at hl 2 rfl) ?_
  refine lv_iconst (v := 1) hx hb d_Mo_text_1 (by decide) ?_
  refine lv_icmp_lt (tgt := 11) hx hb d_Mo_text_2 (by decide) (fun c1 => absurd c1 (nI_nlt (b := 1) (by omega) (by omega))) (fun c1 => ?_)
  refine lv_iload_n hx hb d_Mo_text_5 rfl (lv_at hl 2 rfl) ?_
  refine lv_bipush (v := 8) hx hb d_Mo_text_6 (by decide) ?_
  refine lv_icmp_le (tgt := 15) hx hb d_Mo_text_8 (by decide) (fun c2 => ?_) (fun c2 => absurd (nI_le (b := 8) (by omega) (by decide)) c2)
  refine lv_iconst (v := 0) hx hb d_Mo_text_15 (by decide) ?_
  refine lv_istore hx hb d_Mo_text_16 hl (by decide) rfl (fun ls hl => ?_)
  have hl : lv_has ls 6 [(4, .int 0), (0, .ref a), (1, .long x), (3, .int (nI mm))] := hl
  refine lv_iconst (v := 0) hx hb d_Mo_text_18 (by decide) ?_
  refine lv_istore hx hb d_Mo_text_19 hl (by decide) rfl (fun ls hl => ?_)
  have hl : lv_has ls 6 [(5, .int 0), (4, .int 0), (0, .ref a), (1, .long x), (3, .int (nI mm))] := hl
  have hl : lv_has ls 6 [(5, .int 0), (0, .ref a), (1, .long x), (3, .int (nI mm)), (4, .int 0)] := lv_sub hl [0, 2, 3, 4, 1] rfl
  have hl : lv_has ls 6 [(5, .int (nI 0)), (0, .ref a), (1, .long x), (3, .int (nI mm)), (4, .int 0)] := hl
  have loop0 : ∀ (r9 i9 : Nat) (H : Heap) (locs : List Loc) (ls : Array Slot), i9 + r9 = mm → (∀ k, k < i9 → by_ok x k) → gh_V E A f s H locs → lv_has ls 6 [(5, .int (nI i9)), (0, .ref a), (1, .long x), (3, .int (nI mm)), (4, .int 0)] → W p l e { frames := 5, cells := 0, slots := 0, locals := 140 } s m args below meth c H locs 0 0 (MQ below (gh_Q E f (fun r g => r = none ∧ (¬ (∀ k, k < mm → by_ok x k) → mo_X E f g a ad (va_up S 0 1) I J) ∧ ((∀ k, k < mm → by_ok x k) → 120 < N + mm → mo_X E f g a ad (va_up S 0 2) I J) ∧ ((∀ k, k < mm → by_ok x k) → N + mm ≤ 120 → ∃ S2 I2, mo_X E f g a ad S2 I2 J ∧ (∀ k, k ≠ 20 → S2 k = va_up S 0 0 k) ∧ S2 20 = nI (N + mm) ∧ (∀ k, k ≠ 19 → I2 k = I k) ∧ ∀ j, I2 19 j = if N ≤ j ∧ j < N + mm then nI (by_n x (mm - 1 - (j - N))) else I 19 j))) args s 0 0 A) (F0 m 21 ls []) := by
    intro r9
    induction r9 with
    | zero =>
      intro i9 H locs ls hi hok V hl
      have hall : ∀ k, k < mm → by_ok x k := fun k hk => hok k (by omega)
      by_cases hov : N + mm ≤ 120
      · refine lv_iload hx hb d_Mo_text_21 (lv_at hl 0 rfl) ?_
        refine lv_iload_n hx hb d_Mo_text_23 rfl (lv_at hl 3 rfl) ?_
        refine lv_icmp_ge (tgt := 81) hx hb d_Mo_text_24 (by decide) (fun c3 => ?_) (fun c3 => absurd (nI_le (by omega) (by omega)) c3)
        refine lv_aload_n hx hb d_Mo_text_81 rfl (lv_at hl 1 rfl) ?_
        refine lv_iload hx hb d_Mo_text_82 (lv_at hl 4 rfl) ?_
        refine lv_iload hx hb d_Mo_text_84 (lv_at hl 4 rfl) ?_
        refine lv_if_ne (tgt := 104) hx hb d_Mo_text_86 (by decide) (fun c4 => absurd (by decide) c4) (fun c4 => ?_)
        refine lv_aload_n hx hb d_Mo_text_89 rfl (lv_at hl 1 rfl) ?_
        refine mo_getS (v := nI N) C V X 20 (by decide) (by decide) (by first | rfl | exact hS20) f_Mo_182 rfl d_Mo_text_90 ?_
        refine lv_iload_n hx hb d_Mo_text_93 rfl (lv_at hl 3 rfl) ?_
        refine gn_iadd (a := N) (b := mm) hx hb d_Mo_text_94 ?_
        refine lv_bipush (v := 120) hx hb d_Mo_text_95 (by decide) ?_
        refine lv_icmp_le (tgt := 104) hx hb d_Mo_text_97 (by decide) (fun c5 => ?_) (fun c5 => absurd (nI_le (b := 120) (by omega) (by decide)) c5)
        refine lv_iconst (v := 0) hx hb d_Mo_text_104 (by decide) ?_
        refine W.eq (g2 := F0 m 105 ls [.int (gh_bi false), .int (gh_bi false), .ref a]) rfl ?_
        refine gh_callV C V hl.1 m_Mo_throwing l_Mo_251 (c_Mo_throwing l E _ _ a ad _ _ _ false false X.1) rfl X.1.1 gc_Mo ⟨by first | decide | omega | (dsimp only; omega), by first | decide | omega | (dsimp only; omega)⟩ ⟨by first | decide | omega | (dsimp only; omega), by first | decide | omega | (dsimp only; omega)⟩ (Nat.le_of_ble_eq_true rfl) rfl d_Mo_text_105 (fun r z9 H locs hp V1 => ?_)
        obtain ⟨rfl, X2⟩ := hp
        have X := X.then X2
        have V := V1
        refine W.eq (g2 := F0 m 108 ls [.int (gh_bi false)]) rfl ?_
        refine lv_if_eq (tgt := 112) hx hb d_Mo_text_108 (by decide) (fun c6 => ?_) (fun c6 => absurd (by decide) c6)
        refine lv_iload_n hx hb d_Mo_text_112 rfl (lv_at hl 3 rfl) ?_
        refine lv_iconst (v := 1) hx hb d_Mo_text_113 (by decide) ?_
        refine lv_isub hx hb d_Mo_text_114 ?_
        refine lv_istore hx hb d_Mo_text_115 hl (by decide) rfl (fun ls hl => ?_)
        have hl : lv_has ls 6 [(5, .int (nI mm - 1)), (0, .ref a), (1, .long x), (3, .int (nI mm)), (4, .int 0)] := hl
        have hl : lv_has ls 6 [(5, .int (nI mm - 1)), (0, .ref a), (1, .long x), (3, .int (nI mm))] := lv_sub hl [0, 1, 2, 3] rfl
        have hl : lv_has ls 6 [(5, .int (nI mm - 1)), (0, .ref a), (1, .long x), (3, .int (nI mm))] := hl
        have loop : ∀ (r9 i9 : Nat) (S1 : Nat → Int32) (I1 : mo_I) (f1 : gh_F) (H : Heap) (locs : List Loc) (ls : Array Slot), i9 + r9 = mm → (∀ k, k ≠ 20 → S1 k = va_up S 0 0 k) → (S1 20 = nI (N + i9)) → (∀ k, k ≠ 19 → I1 k = I k) → (∀ j, I1 19 j = if N ≤ j ∧ j < N + i9 then nI (by_n x (mm - 1 - (j - N))) else I 19 j) → mo_X E f f1 a ad S1 I1 J → gh_V E A f1 s H locs → lv_has ls 6 [(5, .int (nI r9 - 1)), (0, .ref a), (1, .long x), (3, .int (nI mm))] → W p l e { frames := 5, cells := 0, slots := 0, locals := 140 } s m args below meth c H locs 0 0 (MQ below (gh_Q E f (fun r g => r = none ∧ (¬ (∀ k, k < mm → by_ok x k) → mo_X E f g a ad (va_up S 0 1) I J) ∧ ((∀ k, k < mm → by_ok x k) → 120 < N + mm → mo_X E f g a ad (va_up S 0 2) I J) ∧ ((∀ k, k < mm → by_ok x k) → N + mm ≤ 120 → ∃ S2 I2, mo_X E f g a ad S2 I2 J ∧ (∀ k, k ≠ 20 → S2 k = va_up S 0 0 k) ∧ S2 20 = nI (N + mm) ∧ (∀ k, k ≠ 19 → I2 k = I k) ∧ ∀ j, I2 19 j = if N ≤ j ∧ j < N + mm then nI (by_n x (mm - 1 - (j - N))) else I 19 j))) args s 0 0 A) (F0 m 117 ls []) := by
          intro r9
          induction r9 with
          | zero =>
            intro i9 S1 I1 f1 H locs ls hi qS q30 qI q29 X V hl
            have hS20 := q30
            refine lv_iload hx hb d_Mo_text_117 (lv_at hl 0 rfl) ?_
            refine lv_if_lt (tgt := 159) hx hb d_Mo_text_119 (by decide) (fun c7 => ?_) (fun c7 => absurd (by decide) c7)
            refine gh_retv hAe C V hr hlocks d_Mo_text_159 (by first | decide | omega | (dsimp only; omega)) (by first | decide | omega | (dsimp only; omega)) ?_
            have hi9 : i9 = mm := by omega
            subst hi9
            exact ⟨rfl, fun z => absurd hall z, fun _ z => absurd z (by omega), fun _ _ => ⟨_, _, X, qS, q30, qI, q29⟩⟩
          | succ r9 ih =>
            intro i9 S1 I1 f1 H locs ls hi qS q30 qI q29 X V hl
            have hS20 := q30
            have hl : lv_has ls 6 [(5, .int (nI r9)), (0, .ref a), (1, .long x), (3, .int (nI mm))] := by rw [← nI_pred r9]; exact hl
            refine lv_iload hx hb d_Mo_text_117 (lv_at hl 0 rfl) ?_
            refine lv_if_lt (tgt := 159) hx hb d_Mo_text_119 (by decide) (fun c8 => absurd c8 (nI_pos (by omega))) (fun c8 => ?_)
            refine lv_aload_n hx hb d_Mo_text_122 rfl (lv_at hl 1 rfl) ?_
            refine mo_getA C V X 19 (by decide) (by decide) f_Mo_54 rfl d_Mo_text_123 ?_
            refine lv_aload_n hx hb d_Mo_text_126 rfl (lv_at hl 1 rfl) ?_
            refine mo_getS (v := nI (N + i9)) C V X 20 (by decide) (by decide) (by first | rfl | exact hS20) f_Mo_182 rfl d_Mo_text_127 ?_
            refine lv_lload_n hx hb d_Mo_text_130 rfl (lv_at hl 2 rfl) ?_
            refine lv_bipush (v := 8) hx hb d_Mo_text_131 (by decide) ?_
            refine lv_iload hx hb d_Mo_text_133 (lv_at hl 0 rfl) ?_
            refine gn_imul (a := 8) (b := r9) hx hb d_Mo_text_135 ?_
            refine lv_lshr hx hb d_Mo_text_136 rfl ?_
            refine lv_ldc2 (v := 255) hx hb C.2.2.2.1 (C.2.2.2.2.1 _ kl_Mo_144) d_Mo_text_137 ?_
            refine lv_land hx hb d_Mo_text_140 ?_
            refine lv_l2i hx hb d_Mo_text_141 rfl ?_
            refine mo_ist (k := 19) (i := N + i9) (n := 120) C V X (by decide) (by decide) rfl (by omega) (by decide) d_Mo_text_142 (fun f1 H locs V1 X1 => ?_)
            clear V X
            have V := V1
            have X := X1
            clear V1 X1
            refine lv_aload_n hx hb d_Mo_text_143 rfl (lv_at hl 1 rfl) ?_
            refine lv_dup hx hb d_Mo_text_144 rfl ?_
            refine mo_getS (v := nI (N + i9)) C V X 20 (by decide) (by decide) (by first | rfl | exact hS20) f_Mo_182 rfl d_Mo_text_145 ?_
            refine lv_iconst (v := 1) hx hb d_Mo_text_148 (by decide) ?_
            refine gn_iadd (a := N + i9) (b := 1) hx hb d_Mo_text_149 ?_
            refine mo_putS C V X 20 (by decide) (by decide) f_Mo_182 rfl rfl rfl d_Mo_text_150 (fun f1 H locs V1 X1 => ?_)
            clear V X
            have V := V1
            have X := X1
            clear V1 X1
            refine lv_iinc (k := 0) (v := nI r9 + (-1)) hx hb d_Mo_text_153 hl rfl (by rfl) (by decide) rfl (fun ls hl => ?_)
            have hl : lv_has ls 6 [(5, .int (nI r9 - 1)), (0, .ref a), (1, .long x), (3, .int (nI mm))] := by rw [Int32.sub_eq_add_neg]; exact hl
            refine lv_goto (tgt := 117) hx hb d_Mo_text_156 (by decide) ?_
            have hl : lv_has ls 6 [(5, .int (nI r9 - 1)), (0, .ref a), (1, .long x), (3, .int (nI mm))] := lv_sub hl [0, 1, 2, 3] rfl
            refine ih (i9 + 1) _ _ _ _ _ ls (by omega) (fun k hk => ?_) ?_ (fun k hk => ?_) (fun j => ?_) X V hl
            · rw [va_up_n hk]; exact qS k hk
            · rw [va_up_s, Nat.add_assoc]
            · rw [va_up_n hk]; exact qI k hk
            · rw [va_up_s]; simp only [upd]
              by_cases e : j = N + i9
              · rw [if_pos e, if_pos (by omega), by_mo (by omega), show mm - 1 - (j - N) = r9 by omega]
              · rw [if_neg e, q29 j]; by_cases h : N ≤ j ∧ j < N + i9
                · rw [if_pos h, if_pos (by omega)]
                · rw [if_neg h, if_neg (by omega)]
        exact loop mm 0 _ _ _ _ _ ls (by omega) (fun k _ => rfl) (by rw [va_up_n (by decide)]; exact hS20) (fun _ _ => rfl) (fun j => by rw [if_neg (by omega)]) X V hl
      · refine lv_iload hx hb d_Mo_text_21 (lv_at hl 0 rfl) ?_
        refine lv_iload_n hx hb d_Mo_text_23 rfl (lv_at hl 3 rfl) ?_
        refine lv_icmp_ge (tgt := 81) hx hb d_Mo_text_24 (by decide) (fun c9 => ?_) (fun c9 => absurd (nI_le (by omega) (by omega)) c9)
        refine lv_aload_n hx hb d_Mo_text_81 rfl (lv_at hl 1 rfl) ?_
        refine lv_iload hx hb d_Mo_text_82 (lv_at hl 4 rfl) ?_
        refine lv_iload hx hb d_Mo_text_84 (lv_at hl 4 rfl) ?_
        refine lv_if_ne (tgt := 104) hx hb d_Mo_text_86 (by decide) (fun c10 => absurd (by decide) c10) (fun c10 => ?_)
        refine lv_aload_n hx hb d_Mo_text_89 rfl (lv_at hl 1 rfl) ?_
        refine mo_getS (v := nI N) C V X 20 (by decide) (by decide) (by first | rfl | exact hS20) f_Mo_182 rfl d_Mo_text_90 ?_
        refine lv_iload_n hx hb d_Mo_text_93 rfl (lv_at hl 3 rfl) ?_
        refine gn_iadd (a := N) (b := mm) hx hb d_Mo_text_94 ?_
        refine lv_bipush (v := 120) hx hb d_Mo_text_95 (by decide) ?_
        refine lv_icmp_le (tgt := 104) hx hb d_Mo_text_97 (by decide) (fun c11 => absurd c11 (nI_ge (a := 120) (by omega) (by omega))) (fun c11 => ?_)
        refine lv_iconst (v := 1) hx hb d_Mo_text_100 (by decide) ?_
        refine lv_goto (tgt := 105) hx hb d_Mo_text_101 (by decide) ?_
        refine W.eq (g2 := F0 m 105 ls [.int (gh_bi true), .int (gh_bi false), .ref a]) rfl ?_
        refine gh_callV C V hl.1 m_Mo_throwing l_Mo_251 (c_Mo_throwing l E _ _ a ad _ _ _ false true X.1) rfl X.1.1 gc_Mo ⟨by first | decide | omega | (dsimp only; omega), by first | decide | omega | (dsimp only; omega)⟩ ⟨by first | decide | omega | (dsimp only; omega), by first | decide | omega | (dsimp only; omega)⟩ (Nat.le_of_ble_eq_true rfl) rfl d_Mo_text_105 (fun r z9 H locs hp V1 => ?_)
        obtain ⟨rfl, X2⟩ := hp
        have X := X.then X2
        have V := V1
        refine W.eq (g2 := F0 m 108 ls [.int (gh_bi true)]) rfl ?_
        refine lv_if_eq (tgt := 112) hx hb d_Mo_text_108 (by decide) (fun c12 => absurd c12 (by decide)) (fun c12 => ?_)
        refine gh_retv hAe C V hr hlocks d_Mo_text_111 (by first | decide | omega | (dsimp only; omega)) (by first | decide | omega | (dsimp only; omega)) ?_
        exact ⟨rfl, fun z => absurd hall z, fun _ _ => X, fun _ z => absurd z hov⟩
    | succ r9 ih0 =>
      intro i9 H locs ls hi hok V hl
      have hb256 := by_n_lt (x := x) (k := i9)
      by_cases hlo : by_n x i9 < 32
      · refine lv_iload hx hb d_Mo_text_21 (lv_at hl 0 rfl) ?_
        refine lv_iload_n hx hb d_Mo_text_23 rfl (lv_at hl 3 rfl) ?_
        refine lv_icmp_ge (tgt := 81) hx hb d_Mo_text_24 (by decide) (fun c13 => absurd c13 (nI_ge (by omega) (by omega))) (fun c13 => ?_)
        refine lv_iload hx hb d_Mo_text_27 (lv_at hl 4 rfl) ?_
        refine lv_if_ne (tgt := 81) hx hb d_Mo_text_29 (by decide) (fun c14 => absurd (by decide) c14) (fun c14 => ?_)
        refine lv_lload_n hx hb d_Mo_text_32 rfl (lv_at hl 2 rfl) ?_
        refine lv_bipush (v := 8) hx hb d_Mo_text_33 (by decide) ?_
        refine lv_iload hx hb d_Mo_text_35 (lv_at hl 0 rfl) ?_
        refine gn_imul (a := 8) (b := i9) hx hb d_Mo_text_37 ?_
        refine lv_lshr hx hb d_Mo_text_38 rfl ?_
        refine lv_ldc2 (v := 255) hx hb C.2.2.2.1 (C.2.2.2.2.1 _ kl_Mo_144) d_Mo_text_39 ?_
        refine lv_land hx hb d_Mo_text_42 ?_
        rw [by_moL (x := x) (k := i9) (by omega)]
        refine lv_ldc2 (v := 32) hx hb C.2.2.2.1 (C.2.2.2.2.1 _ kl_Mo_247) d_Mo_text_43 ?_
        refine W.lcmp hx hb d_Mo_text_46 ?_
        refine lv_if_lt (tgt := 68) hx hb d_Mo_text_47 (by decide) (fun c15 => ?_) (fun c15 => absurd ((lg_ltn (n := 32) (by omega) (by decide)).mpr hlo) c15)
        refine lv_iconst (v := 1) hx hb d_Mo_text_68 (by decide) ?_
        refine lv_goto (tgt := 73) hx hb d_Mo_text_69 (by decide) ?_
        refine lv_istore hx hb d_Mo_text_73 hl (by decide) rfl (fun ls hl => ?_)
        have hl : lv_has ls 6 [(4, .int 1), (5, .int (nI i9)), (0, .ref a), (1, .long x), (3, .int (nI mm))] := hl
        refine lv_iinc (k := 1) (v := (nI i9) + 1) hx hb d_Mo_text_75 hl rfl (by rfl) (by decide) rfl (fun ls hl => ?_)
        have hl : lv_has ls 6 [(5, .int (nI (i9 + 1))), (4, .int 1), (0, .ref a), (1, .long x), (3, .int (nI mm))] := by rw [nI_succ]; exact hl
        refine lv_goto (tgt := 21) hx hb d_Mo_text_78 (by decide) ?_
        refine lv_iload hx hb d_Mo_text_21 (lv_at hl 0 rfl) ?_
        refine lv_iload_n hx hb d_Mo_text_23 rfl (lv_at hl 4 rfl) ?_
        refine lv_icmp_ge (tgt := 81) hx hb d_Mo_text_24 (by decide) (fun c16 => ?_) (fun c16 => ?_)
        · have c16 : mm ≤ (i9 + 1) := by rw [← gq_le (a := mm) (b := i9 + 1) (by omega) (by omega)]; exact c16
          refine lv_aload_n hx hb d_Mo_text_81 rfl (lv_at hl 2 rfl) ?_
          refine lv_iload hx hb d_Mo_text_82 (lv_at hl 1 rfl) ?_
          refine lv_iload hx hb d_Mo_text_84 (lv_at hl 1 rfl) ?_
          refine lv_if_ne (tgt := 104) hx hb d_Mo_text_86 (by decide) (fun c17 => ?_) (fun c17 => absurd c17 (by decide))
          refine lv_iconst (v := 0) hx hb d_Mo_text_104 (by decide) ?_
          refine W.eq (g2 := F0 m 105 ls [.int (gh_bi false), .int (gh_bi true), .ref a]) rfl ?_
          refine gh_callV C V hl.1 m_Mo_throwing l_Mo_251 (c_Mo_throwing l E _ _ a ad _ _ _ true false X.1) rfl X.1.1 gc_Mo ⟨by first | decide | omega | (dsimp only; omega), by first | decide | omega | (dsimp only; omega)⟩ ⟨by first | decide | omega | (dsimp only; omega), by first | decide | omega | (dsimp only; omega)⟩ (Nat.le_of_ble_eq_true rfl) rfl d_Mo_text_105 (fun r z9 H locs hp V1 => ?_)
          obtain ⟨rfl, X2⟩ := hp
          have X := X.then X2
          have V := V1
          refine W.eq (g2 := F0 m 108 ls [.int (gh_bi true)]) rfl ?_
          refine lv_if_eq (tgt := 112) hx hb d_Mo_text_108 (by decide) (fun c18 => absurd c18 (by decide)) (fun c18 => ?_)
          refine gh_retv hAe C V hr hlocks d_Mo_text_111 (by first | decide | omega | (dsimp only; omega)) (by first | decide | omega | (dsimp only; omega)) ?_
          exact ⟨rfl, fun _ => X, fun z => absurd (z i9 (by omega)) (by unfold by_ok; omega), fun z => absurd (z i9 (by omega)) (by unfold by_ok; omega)⟩
        · have c16 : ¬ mm ≤ (i9 + 1) := by rw [← gq_le (a := mm) (b := i9 + 1) (by omega) (by omega)]; exact c16
          refine lv_iload hx hb d_Mo_text_27 (lv_at hl 1 rfl) ?_
          refine lv_if_ne (tgt := 81) hx hb d_Mo_text_29 (by decide) (fun c19 => ?_) (fun c19 => absurd c19 (by decide))
          refine lv_aload_n hx hb d_Mo_text_81 rfl (lv_at hl 2 rfl) ?_
          refine lv_iload hx hb d_Mo_text_82 (lv_at hl 1 rfl) ?_
          refine lv_iload hx hb d_Mo_text_84 (lv_at hl 1 rfl) ?_
          refine lv_if_ne (tgt := 104) hx hb d_Mo_text_86 (by decide) (fun c20 => ?_) (fun c20 => absurd c20 (by decide))
          refine lv_iconst (v := 0) hx hb d_Mo_text_104 (by decide) ?_
          refine W.eq (g2 := F0 m 105 ls [.int (gh_bi false), .int (gh_bi true), .ref a]) rfl ?_
          refine gh_callV C V hl.1 m_Mo_throwing l_Mo_251 (c_Mo_throwing l E _ _ a ad _ _ _ true false X.1) rfl X.1.1 gc_Mo ⟨by first | decide | omega | (dsimp only; omega), by first | decide | omega | (dsimp only; omega)⟩ ⟨by first | decide | omega | (dsimp only; omega), by first | decide | omega | (dsimp only; omega)⟩ (Nat.le_of_ble_eq_true rfl) rfl d_Mo_text_105 (fun r z9 H locs hp V1 => ?_)
          obtain ⟨rfl, X2⟩ := hp
          have X := X.then X2
          have V := V1
          refine W.eq (g2 := F0 m 108 ls [.int (gh_bi true)]) rfl ?_
          refine lv_if_eq (tgt := 112) hx hb d_Mo_text_108 (by decide) (fun c21 => absurd c21 (by decide)) (fun c21 => ?_)
          refine gh_retv hAe C V hr hlocks d_Mo_text_111 (by first | decide | omega | (dsimp only; omega)) (by first | decide | omega | (dsimp only; omega)) ?_
          exact ⟨rfl, fun _ => X, fun z => absurd (z i9 (by omega)) (by unfold by_ok; omega), fun z => absurd (z i9 (by omega)) (by unfold by_ok; omega)⟩
      · by_cases hhi : by_n x i9 ≤ 126
        · refine lv_iload hx hb d_Mo_text_21 (lv_at hl 0 rfl) ?_
          refine lv_iload_n hx hb d_Mo_text_23 rfl (lv_at hl 3 rfl) ?_
          refine lv_icmp_ge (tgt := 81) hx hb d_Mo_text_24 (by decide) (fun c22 => absurd c22 (nI_ge (by omega) (by omega))) (fun c22 => ?_)
          refine lv_iload hx hb d_Mo_text_27 (lv_at hl 4 rfl) ?_
          refine lv_if_ne (tgt := 81) hx hb d_Mo_text_29 (by decide) (fun c23 => absurd (by decide) c23) (fun c23 => ?_)
          refine lv_lload_n hx hb d_Mo_text_32 rfl (lv_at hl 2 rfl) ?_
          refine lv_bipush (v := 8) hx hb d_Mo_text_33 (by decide) ?_
          refine lv_iload hx hb d_Mo_text_35 (lv_at hl 0 rfl) ?_
          refine gn_imul (a := 8) (b := i9) hx hb d_Mo_text_37 ?_
          refine lv_lshr hx hb d_Mo_text_38 rfl ?_
          refine lv_ldc2 (v := 255) hx hb C.2.2.2.1 (C.2.2.2.2.1 _ kl_Mo_144) d_Mo_text_39 ?_
          refine lv_land hx hb d_Mo_text_42 ?_
          rw [by_moL (x := x) (k := i9) (by omega)]
          refine lv_ldc2 (v := 32) hx hb C.2.2.2.1 (C.2.2.2.2.1 _ kl_Mo_247) d_Mo_text_43 ?_
          refine W.lcmp hx hb d_Mo_text_46 ?_
          refine lv_if_lt (tgt := 68) hx hb d_Mo_text_47 (by decide) (fun c24 => absurd c24 (fun z => hlo ((lg_ltn (n := 32) (by omega) (by decide)).mp z))) (fun c24 => ?_)
          refine lv_lload_n hx hb d_Mo_text_50 rfl (lv_at hl 2 rfl) ?_
          refine lv_bipush (v := 8) hx hb d_Mo_text_51 (by decide) ?_
          refine lv_iload hx hb d_Mo_text_53 (lv_at hl 0 rfl) ?_
          refine gn_imul (a := 8) (b := i9) hx hb d_Mo_text_55 ?_
          refine lv_lshr hx hb d_Mo_text_56 rfl ?_
          refine lv_ldc2 (v := 255) hx hb C.2.2.2.1 (C.2.2.2.2.1 _ kl_Mo_144) d_Mo_text_57 ?_
          refine lv_land hx hb d_Mo_text_60 ?_
          rw [by_moL (x := x) (k := i9) (by omega)]
          refine lv_ldc2 (v := 126) hx hb C.2.2.2.1 (C.2.2.2.2.1 _ kl_Mo_249) d_Mo_text_61 ?_
          refine W.lcmp hx hb d_Mo_text_64 ?_
          refine lv_if_le (tgt := 72) hx hb d_Mo_text_65 (by decide) (fun c25 => ?_) (fun c25 => absurd ((lg_len (n := 126) (by omega) (by decide)).mpr hhi) c25)
          refine lv_iconst (v := 0) hx hb d_Mo_text_72 (by decide) ?_
          refine lv_istore hx hb d_Mo_text_73 hl (by decide) rfl (fun ls hl => ?_)
          have hl : lv_has ls 6 [(4, .int 0), (5, .int (nI i9)), (0, .ref a), (1, .long x), (3, .int (nI mm))] := hl
          refine lv_iinc (k := 1) (v := (nI i9) + 1) hx hb d_Mo_text_75 hl rfl (by rfl) (by decide) rfl (fun ls hl => ?_)
          have hl : lv_has ls 6 [(5, .int (nI (i9 + 1))), (4, .int 0), (0, .ref a), (1, .long x), (3, .int (nI mm))] := by rw [nI_succ]; exact hl
          refine lv_goto (tgt := 21) hx hb d_Mo_text_78 (by decide) ?_
          have hl : lv_has ls 6 [(5, .int (nI (i9 + 1))), (0, .ref a), (1, .long x), (3, .int (nI mm)), (4, .int 0)] := lv_sub hl [0, 2, 3, 4, 1] rfl
          exact ih0 (i9 + 1) _ _ ls (by omega) (fun k hk => by by_cases e : k = i9; subst e; exact ⟨by omega, hhi⟩; exact hok k (by omega)) V hl
        · refine lv_iload hx hb d_Mo_text_21 (lv_at hl 0 rfl) ?_
          refine lv_iload_n hx hb d_Mo_text_23 rfl (lv_at hl 3 rfl) ?_
          refine lv_icmp_ge (tgt := 81) hx hb d_Mo_text_24 (by decide) (fun c26 => absurd c26 (nI_ge (by omega) (by omega))) (fun c26 => ?_)
          refine lv_iload hx hb d_Mo_text_27 (lv_at hl 4 rfl) ?_
          refine lv_if_ne (tgt := 81) hx hb d_Mo_text_29 (by decide) (fun c27 => absurd (by decide) c27) (fun c27 => ?_)
          refine lv_lload_n hx hb d_Mo_text_32 rfl (lv_at hl 2 rfl) ?_
          refine lv_bipush (v := 8) hx hb d_Mo_text_33 (by decide) ?_
          refine lv_iload hx hb d_Mo_text_35 (lv_at hl 0 rfl) ?_
          refine gn_imul (a := 8) (b := i9) hx hb d_Mo_text_37 ?_
          refine lv_lshr hx hb d_Mo_text_38 rfl ?_
          refine lv_ldc2 (v := 255) hx hb C.2.2.2.1 (C.2.2.2.2.1 _ kl_Mo_144) d_Mo_text_39 ?_
          refine lv_land hx hb d_Mo_text_42 ?_
          rw [by_moL (x := x) (k := i9) (by omega)]
          refine lv_ldc2 (v := 32) hx hb C.2.2.2.1 (C.2.2.2.2.1 _ kl_Mo_247) d_Mo_text_43 ?_
          refine W.lcmp hx hb d_Mo_text_46 ?_
          refine lv_if_lt (tgt := 68) hx hb d_Mo_text_47 (by decide) (fun c28 => absurd c28 (fun z => hlo ((lg_ltn (n := 32) (by omega) (by decide)).mp z))) (fun c28 => ?_)
          refine lv_lload_n hx hb d_Mo_text_50 rfl (lv_at hl 2 rfl) ?_
          refine lv_bipush (v := 8) hx hb d_Mo_text_51 (by decide) ?_
          refine lv_iload hx hb d_Mo_text_53 (lv_at hl 0 rfl) ?_
          refine gn_imul (a := 8) (b := i9) hx hb d_Mo_text_55 ?_
          refine lv_lshr hx hb d_Mo_text_56 rfl ?_
          refine lv_ldc2 (v := 255) hx hb C.2.2.2.1 (C.2.2.2.2.1 _ kl_Mo_144) d_Mo_text_57 ?_
          refine lv_land hx hb d_Mo_text_60 ?_
          rw [by_moL (x := x) (k := i9) (by omega)]
          refine lv_ldc2 (v := 126) hx hb C.2.2.2.1 (C.2.2.2.2.1 _ kl_Mo_249) d_Mo_text_61 ?_
          refine W.lcmp hx hb d_Mo_text_64 ?_
          refine lv_if_le (tgt := 72) hx hb d_Mo_text_65 (by decide) (fun c29 => absurd c29 (fun z => hhi ((lg_len (n := 126) (by omega) (by decide)).mp z))) (fun c29 => ?_)
          refine lv_iconst (v := 1) hx hb d_Mo_text_68 (by decide) ?_
          refine lv_goto (tgt := 73) hx hb d_Mo_text_69 (by decide) ?_
          refine lv_istore hx hb d_Mo_text_73 hl (by decide) rfl (fun ls hl => ?_)
          have hl : lv_has ls 6 [(4, .int 1), (5, .int (nI i9)), (0, .ref a), (1, .long x), (3, .int (nI mm))] := hl
          refine lv_iinc (k := 1) (v := (nI i9) + 1) hx hb d_Mo_text_75 hl rfl (by rfl) (by decide) rfl (fun ls hl => ?_)
          have hl : lv_has ls 6 [(5, .int (nI (i9 + 1))), (4, .int 1), (0, .ref a), (1, .long x), (3, .int (nI mm))] := by rw [nI_succ]; exact hl
          refine lv_goto (tgt := 21) hx hb d_Mo_text_78 (by decide) ?_
          refine lv_iload hx hb d_Mo_text_21 (lv_at hl 0 rfl) ?_
          refine lv_iload_n hx hb d_Mo_text_23 rfl (lv_at hl 4 rfl) ?_
          refine lv_icmp_ge (tgt := 81) hx hb d_Mo_text_24 (by decide) (fun c30 => ?_) (fun c30 => ?_)
          · have c30 : mm ≤ (i9 + 1) := by rw [← gq_le (a := mm) (b := i9 + 1) (by omega) (by omega)]; exact c30
            refine lv_aload_n hx hb d_Mo_text_81 rfl (lv_at hl 2 rfl) ?_
            refine lv_iload hx hb d_Mo_text_82 (lv_at hl 1 rfl) ?_
            refine lv_iload hx hb d_Mo_text_84 (lv_at hl 1 rfl) ?_
            refine lv_if_ne (tgt := 104) hx hb d_Mo_text_86 (by decide) (fun c31 => ?_) (fun c31 => absurd c31 (by decide))
            refine lv_iconst (v := 0) hx hb d_Mo_text_104 (by decide) ?_
            refine W.eq (g2 := F0 m 105 ls [.int (gh_bi false), .int (gh_bi true), .ref a]) rfl ?_
            refine gh_callV C V hl.1 m_Mo_throwing l_Mo_251 (c_Mo_throwing l E _ _ a ad _ _ _ true false X.1) rfl X.1.1 gc_Mo ⟨by first | decide | omega | (dsimp only; omega), by first | decide | omega | (dsimp only; omega)⟩ ⟨by first | decide | omega | (dsimp only; omega), by first | decide | omega | (dsimp only; omega)⟩ (Nat.le_of_ble_eq_true rfl) rfl d_Mo_text_105 (fun r z9 H locs hp V1 => ?_)
            obtain ⟨rfl, X2⟩ := hp
            have X := X.then X2
            have V := V1
            refine W.eq (g2 := F0 m 108 ls [.int (gh_bi true)]) rfl ?_
            refine lv_if_eq (tgt := 112) hx hb d_Mo_text_108 (by decide) (fun c32 => absurd c32 (by decide)) (fun c32 => ?_)
            refine gh_retv hAe C V hr hlocks d_Mo_text_111 (by first | decide | omega | (dsimp only; omega)) (by first | decide | omega | (dsimp only; omega)) ?_
            exact ⟨rfl, fun _ => X, fun z => absurd (z i9 (by omega)) (by unfold by_ok; omega), fun z => absurd (z i9 (by omega)) (by unfold by_ok; omega)⟩
          · have c30 : ¬ mm ≤ (i9 + 1) := by rw [← gq_le (a := mm) (b := i9 + 1) (by omega) (by omega)]; exact c30
            refine lv_iload hx hb d_Mo_text_27 (lv_at hl 1 rfl) ?_
            refine lv_if_ne (tgt := 81) hx hb d_Mo_text_29 (by decide) (fun c33 => ?_) (fun c33 => absurd c33 (by decide))
            refine lv_aload_n hx hb d_Mo_text_81 rfl (lv_at hl 2 rfl) ?_
            refine lv_iload hx hb d_Mo_text_82 (lv_at hl 1 rfl) ?_
            refine lv_iload hx hb d_Mo_text_84 (lv_at hl 1 rfl) ?_
            refine lv_if_ne (tgt := 104) hx hb d_Mo_text_86 (by decide) (fun c34 => ?_) (fun c34 => absurd c34 (by decide))
            refine lv_iconst (v := 0) hx hb d_Mo_text_104 (by decide) ?_
            refine W.eq (g2 := F0 m 105 ls [.int (gh_bi false), .int (gh_bi true), .ref a]) rfl ?_
            refine gh_callV C V hl.1 m_Mo_throwing l_Mo_251 (c_Mo_throwing l E _ _ a ad _ _ _ true false X.1) rfl X.1.1 gc_Mo ⟨by first | decide | omega | (dsimp only; omega), by first | decide | omega | (dsimp only; omega)⟩ ⟨by first | decide | omega | (dsimp only; omega), by first | decide | omega | (dsimp only; omega)⟩ (Nat.le_of_ble_eq_true rfl) rfl d_Mo_text_105 (fun r z9 H locs hp V1 => ?_)
            obtain ⟨rfl, X2⟩ := hp
            have X := X.then X2
            have V := V1
            refine W.eq (g2 := F0 m 108 ls [.int (gh_bi true)]) rfl ?_
            refine lv_if_eq (tgt := 112) hx hb d_Mo_text_108 (by decide) (fun c35 => absurd c35 (by decide)) (fun c35 => ?_)
            refine gh_retv hAe C V hr hlocks d_Mo_text_111 (by first | decide | omega | (dsimp only; omega)) (by first | decide | omega | (dsimp only; omega)) ?_
            exact ⟨rfl, fun _ => X, fun z => absurd (z i9 (by omega)) (by unfold by_ok; omega), fun z => absurd (z i9 (by omega)) (by unfold by_ok; omega)⟩
  exact loop0 mm 0 _ _ ls (by omega) (fun k hk => absurd hk (Nat.not_lt_zero k)) V hl
