/-! Constructors without loops: Step, Gathering, Writer, Query. Printed by wip/whole/gen_init1.py. -/
theorem d_St_init_0 : decode b_St_init 0 = .ok (.aload_n 0, 1) := by decide +kernel
theorem d_St_init_1 : decode b_St_init 1 = .ok (.invokespecial 1, 3) := by decide +kernel
theorem d_St_init_4 : decode b_St_init 4 = .ok (.return_, 1) := by decide +kernel
set_option maxHeartbeats 4000000 in
set_option maxRecDepth 100000 in
theorem c_St_init (l : Launch) (E : gh_E) (sz : Nat) (f : gh_F) (a : Nat) : gh_M l y_St_init b_St_init 1 none E sz [.ref a] f { frames := 1, cells := 0, slots := 0, locals := 12 } (fun r g => r = none ∧ g = f) := by
  refine gh_open (by decide) (Nat.le_of_ble_eq_true rfl) ?_
  intro p e s m args below meth c A ls hAe C V hr hlocks hname hl
  have hx := C.1
  have hb := C.2.1
  have hini : meth.name = "<init>" := hname
  have hl : lv_has ls 1 [(0, .ref a)] := hl
  refine lv_aload_n hx hb d_St_init_0 rfl (lv_at hl 0 rfl) ?_
  refine gh_obj C hl.1 o_St_1 (by decide) (by decide) d_St_init_1 ?_
  refine gh_retv hAe C V hr hlocks d_St_init_4 (by first | decide | omega | (dsimp only; omega)) (by first | decide | omega | (dsimp only; omega)) ?_
  exact ⟨rfl, rfl⟩
theorem d_Ga_init_0 : decode b_Ga_init 0 = .ok (.aload_n 0, 1) := by decide +kernel
theorem d_Ga_init_1 : decode b_Ga_init 1 = .ok (.invokespecial 1, 3) := by decide +kernel
theorem d_Ga_init_4 : decode b_Ga_init 4 = .ok (.aload_n 0, 1) := by decide +kernel
theorem d_Ga_init_5 : decode b_Ga_init 5 = .ok (.bipush 16, 2) := by decide +kernel
theorem d_Ga_init_7 : decode b_Ga_init 7 = .ok (.anewarray 7, 3) := by decide +kernel
theorem d_Ga_init_10 : decode b_Ga_init 10 = .ok (.putfield 9, 3) := by decide +kernel
theorem d_Ga_init_13 : decode b_Ga_init 13 = .ok (.aload_n 0, 1) := by decide +kernel
theorem d_Ga_init_14 : decode b_Ga_init 14 = .ok (.bipush 16, 2) := by decide +kernel
theorem d_Ga_init_16 : decode b_Ga_init 16 = .ok (.anewarray 7, 3) := by decide +kernel
theorem d_Ga_init_19 : decode b_Ga_init 19 = .ok (.putfield 15, 3) := by decide +kernel
theorem d_Ga_init_22 : decode b_Ga_init 22 = .ok (.return_, 1) := by decide +kernel
set_option maxHeartbeats 4000000 in
set_option maxRecDepth 100000 in
theorem c_Ga_init (l : Launch) (E : gh_E) (sz : Nat) (f : gh_F) (a : Nat) (ha : f a = some (.inr (1, [.null, .null, .int 0]))) : gh_M l y_Ga_init b_Ga_init 1 none E sz [.ref a] f { frames := 1, cells := 2, slots := 32, locals := 20 } (fun r g => r = none ∧ ∃ k i, f k = none ∧ f i = none ∧ k ≠ i ∧ g a = some (.inr (1, [.ref k, .ref i, .int 0])) ∧ g k = some (.inl (E.2.2.1 4, 16, .inr (.inr (.inr (.inr (fun _ => none)))))) ∧ g i = some (.inl (E.2.2.1 4, 16, .inr (.inr (.inr (.inr (fun _ => none)))))) ∧ gh_fr f g (fun b => b ∈ ([a] : List Nat))) := by
  refine gh_open (by decide) (Nat.le_of_ble_eq_true rfl) ?_
  intro p e s m args below meth c A ls hAe C V hr hlocks hname hl
  have hx := C.1
  have hb := C.2.1
  have hini : meth.name = "<init>" := hname
  have hl : lv_has ls 1 [(0, .ref a)] := hl
  have hfr : gh_fr f f (fun b => b ∈ ([a] : List Nat)) := gh_fr.rf
  refine lv_aload_n hx hb d_Ga_init_0 rfl (lv_at hl 0 rfl) ?_
  refine gh_obj C hl.1 o_Ga_1 (by decide) (by decide) d_Ga_init_1 ?_
  refine lv_aload_n hx hb d_Ga_init_4 rfl (lv_at hl 0 rfl) ?_
  refine lv_bipush (v := 16) hx hb d_Ga_init_5 (by decide) ?_
  refine gh_newq (t0 := 4) (N := 16) C V k_Ga_7 C.2.2.2.2.2.2.2.1.2.2.2.2.2.2.1 rfl (by decide) (by decide) (by decide) (by first | decide | omega | (dsimp only; omega)) (by first | decide | omega | (dsimp only; omega)) d_Ga_init_7 (fun q1 H hnq1 V => ?_)
  obtain ⟨f2, hff2⟩ : ∃ z9 : gh_F, z9 = gh_u f q1 (.inl (E.2.2.1 4, 16, .inr (.inr (.inr (.inr (fun _ => none)))))) := ⟨_, rfl⟩
  have V : gh_V E A f2 s H [] := by rw [hff2]; exact V
  have nz_q1 : f q1 = none := hfr.non hnq1
  have hfr : gh_fr f f2 (fun b => b ∈ ([a] : List Nat)) := by rw [hff2]; exact hfr.put (Or.inr nz_q1)
  have ne_a_q1 : a ≠ q1 := gh_ne0 ha hnq1
  have h_a_f2 : f2 a = some (.inr (1, [.null, .null, .int 0])) := by rw [hff2, gh_un ne_a_q1]; exact ha
  have h_q1_f2 : f2 q1 = some (.inl (E.2.2.1 4, 16, .inr (.inr (.inr (.inr (fun _ => none)))))) := by rw [hff2, gh_us]
  refine gh_putF C V hini h_a_f2 gc_Ga gi_Ga ty_Ga nm_Ga 0 (by decide) f_Ga_9 rfl (by first | rfl | decide) (by first | rfl | decide) (Nat.le_of_ble_eq_true rfl) d_Ga_init_10 (fun H locs V => ?_)
  obtain ⟨f3, hff3⟩ : ∃ z9 : gh_F, z9 = gh_u f2 a (.inr (1, [.ref q1, .null, .int 0])) := ⟨_, rfl⟩
  have V : gh_V E A f3 s H locs := by rw [hff3]; exact V
  have hfr : gh_fr f f3 (fun b => b ∈ ([a] : List Nat)) := by rw [hff3]; exact hfr.put (Or.inl (by simp))
  have h_q1_f3 : f3 q1 = some (.inl (E.2.2.1 4, 16, .inr (.inr (.inr (.inr (fun _ => none)))))) := by rw [hff3, gh_un (Ne.symm ne_a_q1)]; exact h_q1_f2
  have h_a_f3 : f3 a = some (.inr (1, [.ref q1, .null, .int 0])) := by rw [hff3, gh_us]
  refine lv_aload_n hx hb d_Ga_init_13 rfl (lv_at hl 0 rfl) ?_
  refine lv_bipush (v := 16) hx hb d_Ga_init_14 (by decide) ?_
  refine gh_newq (t0 := 4) (N := 16) C V k_Ga_7 C.2.2.2.2.2.2.2.1.2.2.2.2.2.2.1 rfl (by decide) (by decide) (by decide) (by first | decide | omega | (dsimp only; omega)) (by first | decide | omega | (dsimp only; omega)) d_Ga_init_16 (fun q4 H hnq4 V => ?_)
  obtain ⟨f5, hff5⟩ : ∃ z9 : gh_F, z9 = gh_u f3 q4 (.inl (E.2.2.1 4, 16, .inr (.inr (.inr (.inr (fun _ => none)))))) := ⟨_, rfl⟩
  have V : gh_V E A f5 s H locs := by rw [hff5]; exact V
  have nz_q4 : f q4 = none := hfr.non hnq4
  have hfr : gh_fr f f5 (fun b => b ∈ ([a] : List Nat)) := by rw [hff5]; exact hfr.put (Or.inr nz_q4)
  have ne_q1_q4 : q1 ≠ q4 := gh_ne0 h_q1_f3 hnq4
  have h_q1_f5 : f5 q1 = some (.inl (E.2.2.1 4, 16, .inr (.inr (.inr (.inr (fun _ => none)))))) := by rw [hff5, gh_un ne_q1_q4]; exact h_q1_f3
  have ne_a_q4 : a ≠ q4 := gh_ne0 h_a_f3 hnq4
  have h_a_f5 : f5 a = some (.inr (1, [.ref q1, .null, .int 0])) := by rw [hff5, gh_un ne_a_q4]; exact h_a_f3
  have h_q4_f5 : f5 q4 = some (.inl (E.2.2.1 4, 16, .inr (.inr (.inr (.inr (fun _ => none)))))) := by rw [hff5, gh_us]
  refine gh_putF C V hini h_a_f5 gc_Ga gi_Ga ty_Ga nm_Ga 1 (by decide) f_Ga_15 rfl (by first | rfl | decide) (by first | rfl | decide) (Nat.le_of_ble_eq_true rfl) d_Ga_init_19 (fun H locs V => ?_)
  obtain ⟨f6, hff6⟩ : ∃ z9 : gh_F, z9 = gh_u f5 a (.inr (1, [.ref q1, .ref q4, .int 0])) := ⟨_, rfl⟩
  have V : gh_V E A f6 s H locs := by rw [hff6]; exact V
  have hfr : gh_fr f f6 (fun b => b ∈ ([a] : List Nat)) := by rw [hff6]; exact hfr.put (Or.inl (by simp))
  have h_q1_f6 : f6 q1 = some (.inl (E.2.2.1 4, 16, .inr (.inr (.inr (.inr (fun _ => none)))))) := by rw [hff6, gh_un (Ne.symm ne_a_q1)]; exact h_q1_f5
  have h_q4_f6 : f6 q4 = some (.inl (E.2.2.1 4, 16, .inr (.inr (.inr (.inr (fun _ => none)))))) := by rw [hff6, gh_un (Ne.symm ne_a_q4)]; exact h_q4_f5
  have h_a_f6 : f6 a = some (.inr (1, [.ref q1, .ref q4, .int 0])) := by rw [hff6, gh_us]
  refine gh_retv hAe C V hr hlocks d_Ga_init_22 (by first | decide | omega | (dsimp only; omega)) (by first | decide | omega | (dsimp only; omega)) ?_
  exact ⟨rfl, q1, q4, nz_q1, nz_q4, ne_q1_q4, h_a_f6, h_q1_f6, h_q4_f6, hfr⟩
theorem d_Wr_init_0 : decode b_Wr_init 0 = .ok (.aload_n 0, 1) := by decide +kernel
theorem d_Wr_init_1 : decode b_Wr_init 1 = .ok (.invokespecial 1, 3) := by decide +kernel
theorem d_Wr_init_4 : decode b_Wr_init 4 = .ok (.aload_n 0, 1) := by decide +kernel
theorem d_Wr_init_5 : decode b_Wr_init 5 = .ok (.bipush 19, 2) := by decide +kernel
theorem d_Wr_init_7 : decode b_Wr_init 7 = .ok (.newarray .char, 2) := by decide +kernel
theorem d_Wr_init_9 : decode b_Wr_init 9 = .ok (.putfield 9, 3) := by decide +kernel
theorem d_Wr_init_12 : decode b_Wr_init 12 = .ok (.return_, 1) := by decide +kernel
set_option maxHeartbeats 4000000 in
set_option maxRecDepth 100000 in
theorem c_Wr_init (l : Launch) (E : gh_E) (sz : Nat) (f : gh_F) (a : Nat) (ha : f a = some (.inr (8, [.null, .int 0, .int 0, .int 0]))) : gh_M l y_Wr_init b_Wr_init 1 none E sz [.ref a] f { frames := 1, cells := 1, slots := 19, locals := 20 } (fun r g => r = none ∧ ∃ k, f k = none ∧ g a = some (.inr (8, [.ref k, .int 0, .int 0, .int 0])) ∧ g k = some (.inl (E.2.2.1 2, 19, .inl (fun _ => 0))) ∧ gh_fr f g (fun b => b ∈ ([a] : List Nat))) := by
  refine gh_open (by decide) (Nat.le_of_ble_eq_true rfl) ?_
  intro p e s m args below meth c A ls hAe C V hr hlocks hname hl
  have hx := C.1
  have hb := C.2.1
  have hini : meth.name = "<init>" := hname
  have hl : lv_has ls 1 [(0, .ref a)] := hl
  have hfr : gh_fr f f (fun b => b ∈ ([a] : List Nat)) := gh_fr.rf
  refine lv_aload_n hx hb d_Wr_init_0 rfl (lv_at hl 0 rfl) ?_
  refine gh_obj C hl.1 o_Wr_1 (by decide) (by decide) d_Wr_init_1 ?_
  refine lv_aload_n hx hb d_Wr_init_4 rfl (lv_at hl 0 rfl) ?_
  refine lv_bipush (v := 19) hx hb d_Wr_init_5 (by decide) ?_
  refine gh_newa (atype := .char) (ty := .char) (t0 := 2) (a0 := (19, .inl (fun _ => 0))) (N := 19) C V rfl ac_char rfl (fun _ h => by cases h) (gh_a0i _ .char rfl) (by decide) (by decide) (by decide +kernel) (by first | decide | omega | (dsimp only; omega)) (by first | decide | omega | (dsimp only; omega)) d_Wr_init_7 (fun q1 H hnq1 V => ?_)
  obtain ⟨f2, hff2⟩ : ∃ z9 : gh_F, z9 = gh_u f q1 (.inl (E.2.2.1 2, 19, .inl (fun _ => 0))) := ⟨_, rfl⟩
  have V : gh_V E A f2 s H [] := by rw [hff2]; exact V
  have nz_q1 : f q1 = none := hfr.non hnq1
  have hfr : gh_fr f f2 (fun b => b ∈ ([a] : List Nat)) := by rw [hff2]; exact hfr.put (Or.inr nz_q1)
  have ne_a_q1 : a ≠ q1 := gh_ne0 ha hnq1
  have h_a_f2 : f2 a = some (.inr (8, [.null, .int 0, .int 0, .int 0])) := by rw [hff2, gh_un ne_a_q1]; exact ha
  have h_q1_f2 : f2 q1 = some (.inl (E.2.2.1 2, 19, .inl (fun _ => 0))) := by rw [hff2, gh_us]
  refine gh_putF C V hini h_a_f2 gc_Wr gi_Wr ty_Wr nm_Wr 0 (by decide) f_Wr_9 rfl (by first | rfl | decide) (by first | rfl | decide) (Nat.le_of_ble_eq_true rfl) d_Wr_init_9 (fun H locs V => ?_)
  obtain ⟨f3, hff3⟩ : ∃ z9 : gh_F, z9 = gh_u f2 a (.inr (8, [.ref q1, .int 0, .int 0, .int 0])) := ⟨_, rfl⟩
  have V : gh_V E A f3 s H locs := by rw [hff3]; exact V
  have hfr : gh_fr f f3 (fun b => b ∈ ([a] : List Nat)) := by rw [hff3]; exact hfr.put (Or.inl (by simp))
  have h_q1_f3 : f3 q1 = some (.inl (E.2.2.1 2, 19, .inl (fun _ => 0))) := by rw [hff3, gh_un (Ne.symm ne_a_q1)]; exact h_q1_f2
  have h_a_f3 : f3 a = some (.inr (8, [.ref q1, .int 0, .int 0, .int 0])) := by rw [hff3, gh_us]
  refine gh_retv hAe C V hr hlocks d_Wr_init_12 (by first | decide | omega | (dsimp only; omega)) (by first | decide | omega | (dsimp only; omega)) ?_
  exact ⟨rfl, q1, nz_q1, h_a_f3, h_q1_f3, hfr⟩
theorem d_Qu_init_0 : decode b_Qu_init 0 = .ok (.aload_n 0, 1) := by decide +kernel
theorem d_Qu_init_1 : decode b_Qu_init 1 = .ok (.invokespecial 1, 3) := by decide +kernel
theorem d_Qu_init_4 : decode b_Qu_init 4 = .ok (.aload_n 0, 1) := by decide +kernel
theorem d_Qu_init_5 : decode b_Qu_init 5 = .ok (.bipush 60, 2) := by decide +kernel
theorem d_Qu_init_7 : decode b_Qu_init 7 = .ok (.newarray .int, 2) := by decide +kernel
theorem d_Qu_init_9 : decode b_Qu_init 9 = .ok (.putfield 9, 3) := by decide +kernel
theorem d_Qu_init_12 : decode b_Qu_init 12 = .ok (.aload_n 0, 1) := by decide +kernel
theorem d_Qu_init_13 : decode b_Qu_init 13 = .ok (.sipush 180, 3) := by decide +kernel
theorem d_Qu_init_16 : decode b_Qu_init 16 = .ok (.newarray .int, 2) := by decide +kernel
theorem d_Qu_init_18 : decode b_Qu_init 18 = .ok (.putfield 13, 3) := by decide +kernel
theorem d_Qu_init_21 : decode b_Qu_init 21 = .ok (.return_, 1) := by decide +kernel
set_option maxHeartbeats 4000000 in
set_option maxRecDepth 100000 in
theorem c_Qu_init (l : Launch) (E : gh_E) (sz : Nat) (f : gh_F) (a : Nat) (ha : f a = some (.inr (2, [.null, .null, .int 0]))) : gh_M l y_Qu_init b_Qu_init 1 none E sz [.ref a] f { frames := 1, cells := 2, slots := 240, locals := 20 } (fun r g => r = none ∧ ∃ k i, f k = none ∧ f i = none ∧ k ≠ i ∧ g a = some (.inr (2, [.ref k, .ref i, .int 0])) ∧ g k = some (.inl (E.2.2.1 0, 60, .inl (fun _ => 0))) ∧ g i = some (.inl (E.2.2.1 0, 180, .inl (fun _ => 0))) ∧ gh_fr f g (fun b => b ∈ ([a] : List Nat))) := by
  refine gh_open (by decide) (Nat.le_of_ble_eq_true rfl) ?_
  intro p e s m args below meth c A ls hAe C V hr hlocks hname hl
  have hx := C.1
  have hb := C.2.1
  have hini : meth.name = "<init>" := hname
  have hl : lv_has ls 1 [(0, .ref a)] := hl
  have hfr : gh_fr f f (fun b => b ∈ ([a] : List Nat)) := gh_fr.rf
  refine lv_aload_n hx hb d_Qu_init_0 rfl (lv_at hl 0 rfl) ?_
  refine gh_obj C hl.1 o_Qu_1 (by decide) (by decide) d_Qu_init_1 ?_
  refine lv_aload_n hx hb d_Qu_init_4 rfl (lv_at hl 0 rfl) ?_
  refine lv_bipush (v := 60) hx hb d_Qu_init_5 (by decide) ?_
  refine gh_newa (atype := .int) (ty := .int) (t0 := 0) (a0 := (60, .inl (fun _ => 0))) (N := 60) C V rfl ac_int rfl (fun _ h => by cases h) (gh_a0i _ .int rfl) (by decide) (by decide) (by decide +kernel) (by first | decide | omega | (dsimp only; omega)) (by first | decide | omega | (dsimp only; omega)) d_Qu_init_7 (fun q1 H hnq1 V => ?_)
  obtain ⟨f2, hff2⟩ : ∃ z9 : gh_F, z9 = gh_u f q1 (.inl (E.2.2.1 0, 60, .inl (fun _ => 0))) := ⟨_, rfl⟩
  have V : gh_V E A f2 s H [] := by rw [hff2]; exact V
  have nz_q1 : f q1 = none := hfr.non hnq1
  have hfr : gh_fr f f2 (fun b => b ∈ ([a] : List Nat)) := by rw [hff2]; exact hfr.put (Or.inr nz_q1)
  have ne_a_q1 : a ≠ q1 := gh_ne0 ha hnq1
  have h_a_f2 : f2 a = some (.inr (2, [.null, .null, .int 0])) := by rw [hff2, gh_un ne_a_q1]; exact ha
  have h_q1_f2 : f2 q1 = some (.inl (E.2.2.1 0, 60, .inl (fun _ => 0))) := by rw [hff2, gh_us]
  refine gh_putF C V hini h_a_f2 gc_Qu gi_Qu ty_Qu nm_Qu 0 (by decide) f_Qu_9 rfl (by first | rfl | decide) (by first | rfl | decide) (Nat.le_of_ble_eq_true rfl) d_Qu_init_9 (fun H locs V => ?_)
  obtain ⟨f3, hff3⟩ : ∃ z9 : gh_F, z9 = gh_u f2 a (.inr (2, [.ref q1, .null, .int 0])) := ⟨_, rfl⟩
  have V : gh_V E A f3 s H locs := by rw [hff3]; exact V
  have hfr : gh_fr f f3 (fun b => b ∈ ([a] : List Nat)) := by rw [hff3]; exact hfr.put (Or.inl (by simp))
  have h_q1_f3 : f3 q1 = some (.inl (E.2.2.1 0, 60, .inl (fun _ => 0))) := by rw [hff3, gh_un (Ne.symm ne_a_q1)]; exact h_q1_f2
  have h_a_f3 : f3 a = some (.inr (2, [.ref q1, .null, .int 0])) := by rw [hff3, gh_us]
  refine lv_aload_n hx hb d_Qu_init_12 rfl (lv_at hl 0 rfl) ?_
  refine lv_sipush (v := 180) hx hb d_Qu_init_13 (by decide) ?_
  refine gh_newa (atype := .int) (ty := .int) (t0 := 0) (a0 := (180, .inl (fun _ => 0))) (N := 180) C V rfl ac_int rfl (fun _ h => by cases h) (gh_a0i _ .int rfl) (by decide) (by decide) (by decide +kernel) (by first | decide | omega | (dsimp only; omega)) (by first | decide | omega | (dsimp only; omega)) d_Qu_init_16 (fun q4 H hnq4 V => ?_)
  obtain ⟨f5, hff5⟩ : ∃ z9 : gh_F, z9 = gh_u f3 q4 (.inl (E.2.2.1 0, 180, .inl (fun _ => 0))) := ⟨_, rfl⟩
  have V : gh_V E A f5 s H locs := by rw [hff5]; exact V
  have nz_q4 : f q4 = none := hfr.non hnq4
  have hfr : gh_fr f f5 (fun b => b ∈ ([a] : List Nat)) := by rw [hff5]; exact hfr.put (Or.inr nz_q4)
  have ne_q1_q4 : q1 ≠ q4 := gh_ne0 h_q1_f3 hnq4
  have h_q1_f5 : f5 q1 = some (.inl (E.2.2.1 0, 60, .inl (fun _ => 0))) := by rw [hff5, gh_un ne_q1_q4]; exact h_q1_f3
  have ne_a_q4 : a ≠ q4 := gh_ne0 h_a_f3 hnq4
  have h_a_f5 : f5 a = some (.inr (2, [.ref q1, .null, .int 0])) := by rw [hff5, gh_un ne_a_q4]; exact h_a_f3
  have h_q4_f5 : f5 q4 = some (.inl (E.2.2.1 0, 180, .inl (fun _ => 0))) := by rw [hff5, gh_us]
  refine gh_putF C V hini h_a_f5 gc_Qu gi_Qu ty_Qu nm_Qu 1 (by decide) f_Qu_13 rfl (by first | rfl | decide) (by first | rfl | decide) (Nat.le_of_ble_eq_true rfl) d_Qu_init_18 (fun H locs V => ?_)
  obtain ⟨f6, hff6⟩ : ∃ z9 : gh_F, z9 = gh_u f5 a (.inr (2, [.ref q1, .ref q4, .int 0])) := ⟨_, rfl⟩
  have V : gh_V E A f6 s H locs := by rw [hff6]; exact V
  have hfr : gh_fr f f6 (fun b => b ∈ ([a] : List Nat)) := by rw [hff6]; exact hfr.put (Or.inl (by simp))
  have h_q1_f6 : f6 q1 = some (.inl (E.2.2.1 0, 60, .inl (fun _ => 0))) := by rw [hff6, gh_un (Ne.symm ne_a_q1)]; exact h_q1_f5
  have h_q4_f6 : f6 q4 = some (.inl (E.2.2.1 0, 180, .inl (fun _ => 0))) := by rw [hff6, gh_un (Ne.symm ne_a_q4)]; exact h_q4_f5
  have h_a_f6 : f6 a = some (.inr (2, [.ref q1, .ref q4, .int 0])) := by rw [hff6, gh_us]
  refine gh_retv hAe C V hr hlocks d_Qu_init_21 (by first | decide | omega | (dsimp only; omega)) (by first | decide | omega | (dsimp only; omega)) ?_
  exact ⟨rfl, q1, q4, nz_q1, nz_q4, ne_q1_q4, h_a_f6, h_q1_f6, h_q4_f6, hfr⟩
