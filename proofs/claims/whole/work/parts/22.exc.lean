/-! The words that 'throw new X()' needs, for the four exceptions of the class. Printed by wip/whole/gen_exc.py. -/
def gx_sp (cls : String) : List Cond := [.castable cls cls, .declares ⟨X_R, "<init>", "()V"⟩, .declares ⟨X_E, "<init>", "()V"⟩, .declares ⟨X_T, "<init>", "()V"⟩, .isRef (.static X_T "UNASSIGNED_STACK" "[Ljava/lang/StackTraceElement;"), .isRef (.static X_T "SUPPRESSED_SENTINEL" "Ljava/util/List;"), .laysStatic X_T "UNASSIGNED_STACK" "[Ljava/lang/StackTraceElement;", .laysStatic X_T "SUPPRESSED_SENTINEL" "Ljava/util/List;"]
def gx_ok (idx : List Nat) (ws : List Cond) (cls : String) : Bool := (List.range ws.length).all fun i => if 5000 ≤ idx.getD i 0 then decide (ws[i]? = (gx_sp cls)[idx.getD i 0 - 5000]?) else decide (ws[i]? = tables_1[idx.getD i 0]?) && (ws.getD i .tt |> goodWord)
theorem gx_all {idx : List Nat} {ws : List Cond} {cls : String} (h : gx_ok idx ws cls = true) : ∀ w ∈ ws, w ∈ g_tbl ∨ w ∈ gx_sp cls := by
  intro w hw
  obtain ⟨i, hi⟩ := List.getElem?_of_mem hw
  have hl := (List.getElem?_eq_some_iff.mp hi).1
  have h1 := List.all_eq_true.mp h i (List.mem_range.mpr hl)
  by_cases hc : 5000 ≤ idx.getD i 0
  · rw [if_pos hc] at h1
    have h2 := of_decide_eq_true h1
    rw [hi] at h2
    exact Or.inr (List.mem_of_getElem? h2.symm)
  · rw [if_neg hc, Bool.and_eq_true] at h1
    have h2 := of_decide_eq_true h1.1
    rw [hi] at h2
    refine Or.inl (g_in _ h2.symm ?_)
    have h3 := h1.2
    rw [List.getD_eq_getElem?_getD, hi] at h3
    exact h3
theorem gx_isRef {C n d : String} {A : Nat → Prop} {s : State} {args : Array Value} (h : va_Zq C n d A s s.heap) : (Cond.isRef (.static C n d)).before args s = true := by
  rcases h with ⟨cf, kf, fi, f, a, cell, h1, h2, h3, h4, h5, h6, h7, -⟩ | ⟨t, cf, kf, fi, f, a, cell, h1, h2, h3, h4, h5, h6, h7, -⟩ <;>
    simp [Cond.before, Cond.holds, Cond.value, Term.eval, State.fieldNamed?, h1, h2, h4, h5, h6, h7]
theorem gx_IA_ok : gx_ok [11, 382, 391, 396, 399, 401, 383, 384, 30, 31, 385, 390, 397, 413, 372, 414, 374, 415, 376, 386, 5006, 388, 5007, 378, 403, 404, 405, 406, 5001, 406, 407, 408, 409, 5002, 409, 410, 411, 383, 5003, 402, 361, 5000, 369, 370, 371, 373, 375, 377, 5004, 5005, 381, 380, 379] (Jvm.Bundle.ownAtoms0 R_QM 74 X_IA [X_R, X_E]) X_IA = true := by decide +kernel
theorem gx_IA_c : Cond.classLink R_QM 72 X_IA ∈ g_tbl := g_in 360 (by decide +kernel) (by decide +kernel)
theorem gx_IA_n : Cond.instantiable X_IA 6 ∈ g_tbl := g_in 361 (by decide +kernel) (by decide +kernel)
theorem gx_IA_i : Cond.initialized X_IA ∈ g_tbl := g_in 14 (by decide +kernel) (by decide +kernel)
theorem gx_IA_w {E : gh_E} {A : Nat → Prop} {p : Program} {s : State} {m : MethodId} {args : Array Value} {c : Code} {cc : ByteArray} {own : String} {nL : Nat} (C : gh_C E A p s m args c cc own nL) : ∀ w ∈ Jvm.Bundle.ownAtoms0 R_QM 74 X_IA [X_R, X_E], w.before args s = true := by
  intro w hw
  obtain ⟨-, ⟨h2, h3⟩, ⟨c1, c2, c3, c4⟩, ⟨d1, d2, d3⟩, -, ⟨s1, s2⟩, -⟩ := C.2.2.2.2.2.2.2.1.2.2.2.2.2.2.2.2.2
  rcases gx_all gx_IA_ok w hw with h | h
  · exact C.2.2.2.2.1 w h
  · simp only [gx_sp, List.mem_cons, List.not_mem_nil, or_false] at h
    rcases h with rfl | rfl | rfl | rfl | rfl | rfl | rfl | rfl
    · exact va_Nw.use rfl c1
    · exact va_Nw.use rfl d1
    · exact va_Nw.use rfl d2
    · exact va_Nw.use rfl d3
    · exact gx_isRef h2
    · exact gx_isRef h3
    · exact s1
    · exact s2
theorem gx_IS_ok : gx_ok [11, 382, 391, 396, 399, 401, 383, 384, 30, 31, 385, 390, 397, 413, 372, 414, 374, 415, 376, 386, 5006, 388, 5007, 378, 434, 435, 436, 406, 5001, 406, 407, 408, 409, 5002, 409, 410, 411, 383, 5003, 433, 425, 5000, 427, 393, 428, 429, 430, 431, 5004, 5005, 381, 380, 432] (Jvm.Bundle.ownAtoms0 R_QM 81 X_IS [X_R, X_E]) X_IS = true := by decide +kernel
theorem gx_IS_c : Cond.classLink R_QM 79 X_IS ∈ g_tbl := g_in 424 (by decide +kernel) (by decide +kernel)
theorem gx_IS_n : Cond.instantiable X_IS 6 ∈ g_tbl := g_in 425 (by decide +kernel) (by decide +kernel)
theorem gx_IS_i : Cond.initialized X_IS ∈ g_tbl := g_in 15 (by decide +kernel) (by decide +kernel)
theorem gx_IS_w {E : gh_E} {A : Nat → Prop} {p : Program} {s : State} {m : MethodId} {args : Array Value} {c : Code} {cc : ByteArray} {own : String} {nL : Nat} (C : gh_C E A p s m args c cc own nL) : ∀ w ∈ Jvm.Bundle.ownAtoms0 R_QM 81 X_IS [X_R, X_E], w.before args s = true := by
  intro w hw
  obtain ⟨-, ⟨h2, h3⟩, ⟨c1, c2, c3, c4⟩, ⟨d1, d2, d3⟩, -, ⟨s1, s2⟩, -⟩ := C.2.2.2.2.2.2.2.1.2.2.2.2.2.2.2.2.2
  rcases gx_all gx_IS_ok w hw with h | h
  · exact C.2.2.2.2.1 w h
  · simp only [gx_sp, List.mem_cons, List.not_mem_nil, or_false] at h
    rcases h with rfl | rfl | rfl | rfl | rfl | rfl | rfl | rfl
    · exact va_Nw.use rfl c2
    · exact va_Nw.use rfl d1
    · exact va_Nw.use rfl d2
    · exact va_Nw.use rfl d3
    · exact gx_isRef h2
    · exact gx_isRef h3
    · exact s1
    · exact s2
theorem gx_NS_ok : gx_ok [11, 382, 391, 396, 399, 401, 383, 384, 30, 31, 385, 390, 397, 413, 372, 414, 374, 415, 376, 386, 5006, 388, 5007, 378, 869, 870, 871, 406, 5001, 406, 407, 408, 409, 5002, 409, 410, 411, 383, 5003, 868, 860, 5000, 862, 395, 863, 864, 865, 866, 5004, 5005, 381, 380, 867] (Jvm.Bundle.ownAtoms0 R_QM 145 X_NS [X_R, X_E]) X_NS = true := by decide +kernel
theorem gx_NS_c : Cond.classLink R_QM 143 X_NS ∈ g_tbl := g_in 859 (by decide +kernel) (by decide +kernel)
theorem gx_NS_n : Cond.instantiable X_NS 6 ∈ g_tbl := g_in 860 (by decide +kernel) (by decide +kernel)
theorem gx_NS_i : Cond.initialized X_NS ∈ g_tbl := g_in 22 (by decide +kernel) (by decide +kernel)
theorem gx_NS_w {E : gh_E} {A : Nat → Prop} {p : Program} {s : State} {m : MethodId} {args : Array Value} {c : Code} {cc : ByteArray} {own : String} {nL : Nat} (C : gh_C E A p s m args c cc own nL) : ∀ w ∈ Jvm.Bundle.ownAtoms0 R_QM 145 X_NS [X_R, X_E], w.before args s = true := by
  intro w hw
  obtain ⟨-, ⟨h2, h3⟩, ⟨c1, c2, c3, c4⟩, ⟨d1, d2, d3⟩, -, ⟨s1, s2⟩, -⟩ := C.2.2.2.2.2.2.2.1.2.2.2.2.2.2.2.2.2
  rcases gx_all gx_NS_ok w hw with h | h
  · exact C.2.2.2.2.1 w h
  · simp only [gx_sp, List.mem_cons, List.not_mem_nil, or_false] at h
    rcases h with rfl | rfl | rfl | rfl | rfl | rfl | rfl | rfl
    · exact va_Nw.use rfl c3
    · exact va_Nw.use rfl d1
    · exact va_Nw.use rfl d2
    · exact va_Nw.use rfl d3
    · exact gx_isRef h2
    · exact gx_isRef h3
    · exact s1
    · exact s2
theorem gx_IO_ok : gx_ok [11, 382, 391, 396, 399, 401, 383, 384, 30, 31, 385, 390, 397, 413, 372, 414, 374, 415, 376, 386, 5006, 388, 5007, 378, 929, 930, 931, 406, 5001, 406, 407, 408, 409, 5002, 409, 410, 411, 383, 5003, 928, 920, 5000, 922, 394, 923, 924, 925, 926, 5004, 5005, 381, 380, 927] (Jvm.Bundle.ownAtoms0 R_QM 128 X_IO [X_R, X_E]) X_IO = true := by decide +kernel
theorem gx_IO_c : Cond.classLink R_QM 126 X_IO ∈ g_tbl := g_in 919 (by decide +kernel) (by decide +kernel)
theorem gx_IO_n : Cond.instantiable X_IO 6 ∈ g_tbl := g_in 920 (by decide +kernel) (by decide +kernel)
theorem gx_IO_i : Cond.initialized X_IO ∈ g_tbl := g_in 23 (by decide +kernel) (by decide +kernel)
theorem gx_IO_w {E : gh_E} {A : Nat → Prop} {p : Program} {s : State} {m : MethodId} {args : Array Value} {c : Code} {cc : ByteArray} {own : String} {nL : Nat} (C : gh_C E A p s m args c cc own nL) : ∀ w ∈ Jvm.Bundle.ownAtoms0 R_QM 128 X_IO [X_R, X_E], w.before args s = true := by
  intro w hw
  obtain ⟨-, ⟨h2, h3⟩, ⟨c1, c2, c3, c4⟩, ⟨d1, d2, d3⟩, -, ⟨s1, s2⟩, -⟩ := C.2.2.2.2.2.2.2.1.2.2.2.2.2.2.2.2.2
  rcases gx_all gx_IO_ok w hw with h | h
  · exact C.2.2.2.2.1 w h
  · simp only [gx_sp, List.mem_cons, List.not_mem_nil, or_false] at h
    rcases h with rfl | rfl | rfl | rfl | rfl | rfl | rfl | rfl
    · exact va_Nw.use rfl c4
    · exact va_Nw.use rfl d1
    · exact va_Nw.use rfl d2
    · exact va_Nw.use rfl d3
    · exact gx_isRef h2
    · exact gx_isRef h3
    · exact s1
    · exact s2
