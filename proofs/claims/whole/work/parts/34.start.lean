/-! The law's start: the empty ghost heap; what lies below the run. -/
theorem st_K {s : State} {args : Array Value} (hts : ∀ w ∈ g_tbl, w.before args s = true) : ∃ (D : va_G), ∀ (c : Nat) (q : vw_C), gh_cl[c]? = some q → u_Kn s q.1 q.2.1 q.2.2 (D.1 c) (D.2 c) := by
  obtain ⟨c0, i0, k0⟩ := u_known hts gi_QM (hts _ n_QM)
  obtain ⟨c1, i1, k1⟩ := u_known hts gi_Ga (hts _ n_Ga)
  obtain ⟨c2, i2, k2⟩ := u_known hts gi_Qu (hts _ n_Qu)
  obtain ⟨c3, i3, k3⟩ := u_known hts gi_Re (hts _ n_Re)
  obtain ⟨c4, i4, k4⟩ := u_known hts gi_Ru (hts _ n_Ru)
  obtain ⟨c5, i5, k5⟩ := u_known hts gi_St (hts _ n_St)
  obtain ⟨c6, i6, k6⟩ := u_known hts gi_Va (hts _ n_Va)
  obtain ⟨c7, i7, k7⟩ := u_known hts gi_Vs (hts _ n_Vs)
  obtain ⟨c8, i8, k8⟩ := u_known hts gi_Wr (hts _ n_Wr)
  obtain ⟨c9, i9, k9⟩ := u_known hts gi_Mo (hts _ n_Mo)
  refine ⟨(fun c => ([c0, c1, c2, c3, c4, c5, c6, c7, c8, c9] : List ClassId).getD c 0, fun c => ([i0, i1, i2, i3, i4, i5, i6, i7, i8, i9] : List (Nat → Nat)).getD c (fun _ => 0)), fun c q hq => ?_⟩
  have hc : c < 10 := (List.getElem?_eq_some_iff.mp hq).1
  rcases (show c = 0 ∨ c = 1 ∨ c = 2 ∨ c = 3 ∨ c = 4 ∨ c = 5 ∨ c = 6 ∨ c = 7 ∨ c = 8 ∨ c = 9 by omega) with rfl | rfl | rfl | rfl | rfl | rfl | rfl | rfl | rfl | rfl <;> cases hq <;> assumption
theorem st_arr {s : State} {args : Array Value} {ty : FieldType} (hn : ∀ C, ty ≠ .object C) (h : (Cond.arrayClass ty).before args s = true) : ∃ cA : ClassId, ArrOfT s cA ty ∧ va_RA s cA ty := by
  obtain ⟨c, k, comp, h1, h2, h3⟩ := Cond.arrayClass_spec (args := args) (first := s) (o := none) (s := s) (idx := []) h
  refine ⟨c, fun N z => ⟨(fun k h => by cases h), k, h2, comp, h3⟩, ?_⟩
  cases ty with
  | object C => exact absurd rfl (hn C)
  | _ => exact h1
theorem st_arq {s : State} {C : String} (h : va_AO C s) : ∃ cA : ClassId, ArrOfT s cA (.object C) ∧ va_RA s cA (.object C) := by
  obtain ⟨comp, c, k, h1, h2, h3, h4, h5⟩ := Cond.arrayOver_spec (args := #[]) (first := s) (o := none) (s := s) (idx := []) h
  exact ⟨c, fun N z => ⟨(fun k h => by cases h), k, h3, comp, h4⟩, k, comp, h3, h4, h1, h5⟩
theorem st_eqR {args : Array Value} {s : State} {t u : Term} {a : Nat} (h : (Cond.eq t u).before args s = true) (ht : t.eval args s none [] s = some (.ref a)) : u.eval args s none [] s = some (.ref a) := by
  cases hv : u.eval args s none [] s with
  | none => simp [Cond.before, Cond.holds, Cond.value, ht, hv] at h
  | some v =>
    cases v <;> simp [Cond.before, Cond.holds, Cond.value, ht, hv] at h
    exact congrArg some (congrArg Value.ref h.symm)
abbrev st_N : Cond := Jvm.Cond.and given_1 narrow_1
def st_S (i : Nat) : Term := .string R_Re (([60, 72, 77] : List Nat).getD i 0)
def st_len : List Nat := [4, 5, 4]
def st_byt : List (List Int32) := [[110, 117, 108, 108], [102, 97, 108, 115, 101], [116, 114, 117, 101]]
theorem st_k1 : ∀ j, j < 27 → Cond.eq (.elem (.static R_Qu "PARTS_IN" "[I") (.int (Int32.ofNat j))) (.int (gh_parts j)) ∈ flatC st_N := by decide +kernel
theorem st_k2 : ∀ i, i < 3 → Cond.exactly (st_S i) "java/lang/String" ∈ flatC st_N ∧ Cond.eq (.field (st_S i) "java/lang/String" "coder" "B") (.int 0) ∈ flatC st_N ∧ Cond.arrayOf (.field (st_S i) "java/lang/String" "value" "[B") .byte ∈ flatC st_N ∧ Cond.eq (.length (.field (st_S i) "java/lang/String" "value" "[B")) (.int (Int32.ofNat (st_len.getD i 0))) ∈ flatC st_N := by decide +kernel
theorem st_k3 : ∀ i, i < 3 → ∀ j, j < st_len.getD i 0 → Cond.eq (.elem (.field (st_S i) "java/lang/String" "value" "[B") (.int (Int32.ofNat j))) (.int ((st_byt.getD i []).getD j 0)) ∈ flatC st_N := by decide +kernel
theorem st_k4 : ∀ i, i < 3 → ∀ j, j < 3 → i ≠ j → Cond.not (Cond.eq (st_S i) (st_S j)) ∈ flatC st_N ∨ Cond.not (Cond.eq (st_S j) (st_S i)) ∈ flatC st_N := by decide +kernel
theorem st_k5 : Cond.eq (.string R_Re 60) (.string R_Wr 33) ∈ flatC st_N ∧ Cond.eq (.string R_Re 72) (.string R_Wr 39) ∈ flatC st_N ∧ Cond.eq (.string R_Re 77) (.string R_Wr 41) ∈ flatC st_N := by decide +kernel
theorem st_k6 : Cond.arrayOf (.static R_Qu "PARTS_IN" "[I") .int ∈ flatC st_N ∧ Cond.eq (.length (.static R_Qu "PARTS_IN" "[I")) (.int (Int32.ofNat 27)) ∈ flatC st_N ∧ Cond.arrayOf (.static R_Vs "NO_LETTERS" "[C") .char ∈ flatC st_N ∧ Cond.eq (.length (.static R_Vs "NO_LETTERS" "[C")) (.int (Int32.ofNat 0)) ∈ flatC st_N := by decide +kernel
theorem st_k7 : Cond.isRef (.static X_T "UNASSIGNED_STACK" "[Ljava/lang/StackTraceElement;") ∈ flatC st_N ∧ Cond.isRef (.static X_T "SUPPRESSED_SENTINEL" "Ljava/util/List;") ∈ flatC st_N ∧ Cond.eq (.static "java/lang/String" "COMPACT_STRINGS" "Z") (.int 1) ∈ flatC st_N ∧ Cond.isRef (.static "jdk/internal/util/Preconditions" "SIOOBE_FORMATTER" "Ljava/util/function/BiFunction;") ∈ flatC st_N := by decide +kernel
theorem st_k8 : Cond.not (.castable X_IS X_IA) ∈ flatC st_N ∧ Cond.not (.castable X_IO X_NS) ∈ flatC st_N ∧ Cond.not (.castable X_IS X_NS) ∈ flatC st_N := by decide +kernel
/-- at the law's entry: the run's numbers, and all that the walks stand on, over the empty ghost heap -/
theorem st_open {s : State} {args : Array Value} (ht0 : ∀ w ∈ lw_tbl, w.before args s = true) (hn : st_N.before args s = true) : ∃ E : gh_E, E.2.1 = s.heap.size ∧ va_K E.1 gh_cl (gh_ty E.2.2.1) s ∧ gh_Z E s := by
  have hts : ∀ w ∈ g_tbl, w.before args s = true := fun w hw => ht0 w (List.mem_filter.mp hw).1
  have hs := flat_of_before _ hn
  have hA : ∀ a : Nat, a < s.heap.size → ¬ s.heap.size ≤ a := fun a h => by omega
  obtain ⟨D, hD⟩ := st_K hts
  have o1 : va_AO R_Va s := va_AO.of (ht0 _ (List.mem_append_right _ (List.mem_of_getElem? (i := 39) (by decide +kernel))))
  have o2 : va_AO R_Ga s := va_AO.of (ht0 _ (List.mem_append_right _ (List.mem_of_getElem? (i := 138) (by decide +kernel))))
  have o3 : va_AO R_St s := va_AO.of (ht0 _ (List.mem_append_right _ (List.mem_of_getElem? (i := 191) (by decide +kernel))))
  obtain ⟨y0, a0, b0⟩ := st_arr (ty := .int) (fun _ h => by cases h) (hts _ ac_int)
  obtain ⟨y1, a1, b1⟩ := st_arr (ty := .long) (fun _ h => by cases h) (hts _ ac_long)
  obtain ⟨y2, a2, b2⟩ := st_arr (ty := .char) (fun _ h => by cases h) (hts _ ac_char)
  obtain ⟨y3, a3, b3⟩ := st_arr (ty := .boolean) (fun _ h => by cases h) (hts _ ac_boolean)
  obtain ⟨y4, a4, b4⟩ := st_arq o1
  obtain ⟨y5, a5, b5⟩ := st_arq o2
  obtain ⟨y6, a6, b6⟩ := st_arq o3
  obtain ⟨p0, hp0, tp0⟩ := va_Tof (A := fun q => s.heap.size ≤ q) (f := fun k => .int (gh_parts k)) (N := 27) (by decide) (hs _ st_k6.1) (va_eqt (hs _ st_k6.2.1)) (fun j hj => va_eqt (hs _ (st_k1 j hj))) hA
  obtain ⟨p1, hp1, tp1⟩ := va_Tof (A := fun q => s.heap.size ≤ q) (f := fun _ => .null) (N := 0) (by decide) (hs _ st_k6.2.2.1) (va_eqt (hs _ st_k6.2.2.2)) (fun j hj => absurd hj (Nat.not_lt_zero j)) hA
  obtain ⟨adK, adV, hS, hev⟩ := vk_Sof (A := fun q => s.heap.size ≤ q) (N := 3) (tm := st_S) (len := st_len) (byt := st_byt) (by decide) (fun i hi => hs _ (st_k2 i hi).1) (fun i hi => hs _ (st_k2 i hi).2.1) (fun i hi => hs _ (st_k2 i hi).2.2.1) (fun i hi => hs _ (st_k2 i hi).2.2.2) (fun i hi j hj => hs _ (st_k3 i hi j hj)) (fun i j hi hj hij => (st_k4 i hi j hj hij).elim (fun h => Or.inl (hs _ h)) (fun h => Or.inr (hs _ h))) hA
  have e0 := hev 0 (by decide)
  have e1 := hev 1 (by decide)
  have e2 := hev 2 (by decide)
  refine ⟨(D, s.heap.size, (fun k => ([y0, y1, y2, y3, y4, y5, y6] : List ClassId).getD k 0), fun k => if k = 0 then p0 else if k = 1 then p1 else if k < 5 then adK (k - 2) else adV (k - 5)), rfl, ⟨hD, fun k q hq => ?_⟩, ?_⟩
  · have hk : k < 7 := (List.getElem?_eq_some_iff.mp hq).1
    rcases (show k = 0 ∨ k = 1 ∨ k = 2 ∨ k = 3 ∨ k = 4 ∨ k = 5 ∨ k = 6 by omega) with rfl | rfl | rfl | rfl | rfl | rfl | rfl <;> cases hq
    · exact ⟨a0, b0⟩
    · exact ⟨a1, b1⟩
    · exact ⟨a2, b2⟩
    · exact ⟨a3, b3⟩
    · exact ⟨a4, b4⟩
    · exact ⟨a5, b5⟩
    · exact ⟨a6, b6⟩
  · refine ⟨va_Zof (ht0 _ (List.mem_append_right _ (List.mem_of_getElem? (i := 290) (by decide +kernel)))) (hts _ i_Qu) hp0 hA, tp0, va_Zof (ht0 _ (List.mem_append_right _ (List.mem_of_getElem? (i := 42) (by decide +kernel)))) (hts _ i_Vs) hp1 hA, tp1, ⟨fun i hi => ?_, fun i j hi hj => ?_⟩, ⟨vk_R.of (ht0 _ (List.mem_append_right _ (List.mem_of_getElem? (i := 469) (by decide +kernel)))) e0, vk_R.of (ht0 _ (List.mem_append_right _ (List.mem_of_getElem? (i := 522) (by decide +kernel)))) e1, vk_R.of (ht0 _ (List.mem_append_right _ (List.mem_of_getElem? (i := 523) (by decide +kernel)))) e2, vk_R.of (ht0 _ (List.mem_append_right _ (List.mem_of_getElem? (i := 890) (by decide +kernel)))) (st_eqR (hs _ st_k5.1) e0), vk_R.of (ht0 _ (List.mem_append_right _ (List.mem_of_getElem? (i := 901) (by decide +kernel)))) (st_eqR (hs _ st_k5.2.1) e1), vk_R.of (ht0 _ (List.mem_append_right _ (List.mem_of_getElem? (i := 902) (by decide +kernel)))) (st_eqR (hs _ st_k5.2.2) e2)⟩, o1, o2, o3,
      va_Nw.of rfl (ht0 _ (List.mem_append_right _ (List.mem_of_getElem? (i := 193) (by decide +kernel)))), ⟨va_Zqof (C := X_T) (n := "UNASSIGNED_STACK") (d := "[Ljava/lang/StackTraceElement;") (ht0 _ (List.mem_append_right _ (List.mem_of_getElem? (i := 387) (by decide +kernel)))) (ht0 _ (List.mem_append_right _ (List.mem_of_getElem? (i := 11) (by decide +kernel)))) (hs _ st_k7.1) hA, va_Zqof (C := X_T) (n := "SUPPRESSED_SENTINEL") (d := "Ljava/util/List;") (ht0 _ (List.mem_append_right _ (List.mem_of_getElem? (i := 389) (by decide +kernel)))) (ht0 _ (List.mem_append_right _ (List.mem_of_getElem? (i := 11) (by decide +kernel)))) (hs _ st_k7.2.1) hA⟩, ⟨va_Nw.of rfl (ht0 _ (List.mem_append_right _ (List.mem_of_getElem? (i := 362) (by decide +kernel)))), va_Nw.of rfl (ht0 _ (List.mem_append_right _ (List.mem_of_getElem? (i := 426) (by decide +kernel)))), va_Nw.of rfl (ht0 _ (List.mem_append_right _ (List.mem_of_getElem? (i := 861) (by decide +kernel)))), va_Nw.of rfl (ht0 _ (List.mem_append_right _ (List.mem_of_getElem? (i := 921) (by decide +kernel))))⟩, ⟨va_Nw.of rfl (ht0 _ (List.mem_append_right _ (List.mem_of_getElem? (i := 363) (by decide +kernel)))), va_Nw.of rfl (ht0 _ (List.mem_append_right _ (List.mem_of_getElem? (i := 365) (by decide +kernel)))), va_Nw.of rfl (ht0 _ (List.mem_append_right _ (List.mem_of_getElem? (i := 367) (by decide +kernel))))⟩, ⟨va_Nc.of (hs _ st_k8.1), va_Nc.of (hs _ st_k8.2.1), va_Nc.of (hs _ st_k8.2.2)⟩, ⟨(show (Cond.laysStatic X_T "UNASSIGNED_STACK" "[Ljava/lang/StackTraceElement;").before args s = true from ht0 _ (List.mem_append_right _ (List.mem_of_getElem? (i := 387) (by decide +kernel)))), (show (Cond.laysStatic X_T "SUPPRESSED_SENTINEL" "Ljava/util/List;").before args s = true from ht0 _ (List.mem_append_right _ (List.mem_of_getElem? (i := 389) (by decide +kernel))))⟩, va_Zof (ht0 _ (List.mem_append_right _ (List.mem_of_getElem? (i := 483) (by decide +kernel)))) (ht0 _ (List.mem_append_right _ (List.mem_of_getElem? (i := 17) (by decide +kernel)))) (va_eqt (hs _ st_k7.2.2.1)) hA, va_Zqof (ht0 _ (List.mem_append_right _ (List.mem_of_getElem? (i := 499) (by decide +kernel)))) (ht0 _ (List.mem_append_right _ (List.mem_of_getElem? (i := 19) (by decide +kernel)))) (hs _ st_k7.2.2.2) hA⟩
    · have h := hS.1 i hi
      have k1 : (fun k => if k = 0 then p0 else if k = 1 then p1 else if k < 5 then adK (k - 2) else adV (k - 5)) (2 + i) = adK i := by
        simp only []
        rw [if_neg (by omega), if_neg (by omega), if_pos (by omega), Nat.add_sub_cancel_left]
      have k2 : (fun k => if k = 0 then p0 else if k = 1 then p1 else if k < 5 then adK (k - 2) else adV (k - 5)) (5 + i) = adV i := by
        simp only []
        rw [if_neg (by omega), if_neg (by omega), if_neg (by omega), Nat.add_sub_cancel_left]
      show va_O _ ((fun k => if k = 0 then p0 else if k = 1 then p1 else if k < 5 then adK (k - 2) else adV (k - 5)) (2 + i)) _ _ _ ∧ va_OF _ _ _ _ ((fun k => if k = 0 then p0 else if k = 1 then p1 else if k < 5 then adK (k - 2) else adV (k - 5)) (2 + i)) _ _ _ ∧ va_OF _ _ _ (.ref ((fun k => if k = 0 then p0 else if k = 1 then p1 else if k < 5 then adK (k - 2) else adV (k - 5)) (5 + i))) ((fun k => if k = 0 then p0 else if k = 1 then p1 else if k < 5 then adK (k - 2) else adV (k - 5)) (2 + i)) _ _ _ ∧ va_T _ ((fun k => if k = 0 then p0 else if k = 1 then p1 else if k < 5 then adK (k - 2) else adV (k - 5)) (5 + i)) _ _ _ _ _
      rw [k1, k2]
      exact h
    · have h := hS.2 i j hi hj
      show (if 2 + i = 0 then p0 else if 2 + i = 1 then p1 else if 2 + i < 5 then adK (2 + i - 2) else adV (2 + i - 5)) = (if 2 + j = 0 then p0 else if 2 + j = 1 then p1 else if 2 + j < 5 then adK (2 + j - 2) else adV (2 + j - 5)) → i = j
      rw [if_neg (by omega), if_neg (by omega), if_pos (by omega), Nat.add_sub_cancel_left, if_neg (by omega), if_neg (by omega), if_pos (by omega), Nat.add_sub_cancel_left]
      exact h
