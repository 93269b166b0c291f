/-! The constructor of Values. Printed by wip/whole/gen_vs.py. -/
theorem d_Vs_init_0 : decode b_Vs_init 0 = .ok (.aload_n 0, 1) := by decide +kernel
theorem d_Vs_init_1 : decode b_Vs_init 1 = .ok (.invokespecial 1, 3) := by decide +kernel
theorem d_Vs_init_4 : decode b_Vs_init 4 = .ok (.aload_n 0, 1) := by decide +kernel
theorem d_Vs_init_5 : decode b_Vs_init 5 = .ok (.iconst 0, 1) := by decide +kernel
theorem d_Vs_init_6 : decode b_Vs_init 6 = .ok (.anewarray 7, 3) := by decide +kernel
theorem d_Vs_init_9 : decode b_Vs_init 9 = .ok (.putfield 9, 3) := by decide +kernel
theorem d_Vs_init_12 : decode b_Vs_init 12 = .ok (.aload_n 0, 1) := by decide +kernel
theorem d_Vs_init_13 : decode b_Vs_init 13 = .ok (.new 7, 3) := by decide +kernel
theorem d_Vs_init_16 : decode b_Vs_init 16 = .ok (.dup, 1) := by decide +kernel
theorem d_Vs_init_17 : decode b_Vs_init 17 = .ok (.iconst 0, 1) := by decide +kernel
theorem d_Vs_init_18 : decode b_Vs_init 18 = .ok (.lconst 0, 1) := by decide +kernel
theorem d_Vs_init_19 : decode b_Vs_init 19 = .ok (.getstatic 15, 3) := by decide +kernel
theorem d_Vs_init_22 : decode b_Vs_init 22 = .ok (.aload_n 0, 1) := by decide +kernel
theorem d_Vs_init_23 : decode b_Vs_init 23 = .ok (.getfield 9, 3) := by decide +kernel
theorem d_Vs_init_26 : decode b_Vs_init 26 = .ok (.aload_n 0, 1) := by decide +kernel
theorem d_Vs_init_27 : decode b_Vs_init 27 = .ok (.getfield 9, 3) := by decide +kernel
theorem d_Vs_init_30 : decode b_Vs_init 30 = .ok (.invokespecial 19, 3) := by decide +kernel
theorem d_Vs_init_33 : decode b_Vs_init 33 = .ok (.putfield 22, 3) := by decide +kernel
theorem d_Vs_init_36 : decode b_Vs_init 36 = .ok (.aload_n 0, 1) := by decide +kernel
theorem d_Vs_init_37 : decode b_Vs_init 37 = .ok (.new 7, 3) := by decide +kernel
theorem d_Vs_init_40 : decode b_Vs_init 40 = .ok (.dup, 1) := by decide +kernel
theorem d_Vs_init_41 : decode b_Vs_init 41 = .ok (.iconst 1, 1) := by decide +kernel
theorem d_Vs_init_42 : decode b_Vs_init 42 = .ok (.lconst 0, 1) := by decide +kernel
theorem d_Vs_init_43 : decode b_Vs_init 43 = .ok (.getstatic 15, 3) := by decide +kernel
theorem d_Vs_init_46 : decode b_Vs_init 46 = .ok (.aload_n 0, 1) := by decide +kernel
theorem d_Vs_init_47 : decode b_Vs_init 47 = .ok (.getfield 9, 3) := by decide +kernel
theorem d_Vs_init_50 : decode b_Vs_init 50 = .ok (.aload_n 0, 1) := by decide +kernel
theorem d_Vs_init_51 : decode b_Vs_init 51 = .ok (.getfield 9, 3) := by decide +kernel
theorem d_Vs_init_54 : decode b_Vs_init 54 = .ok (.invokespecial 19, 3) := by decide +kernel
theorem d_Vs_init_57 : decode b_Vs_init 57 = .ok (.putfield 26, 3) := by decide +kernel
theorem d_Vs_init_60 : decode b_Vs_init 60 = .ok (.aload_n 0, 1) := by decide +kernel
theorem d_Vs_init_61 : decode b_Vs_init 61 = .ok (.new 7, 3) := by decide +kernel
theorem d_Vs_init_64 : decode b_Vs_init 64 = .ok (.dup, 1) := by decide +kernel
theorem d_Vs_init_65 : decode b_Vs_init 65 = .ok (.iconst 2, 1) := by decide +kernel
theorem d_Vs_init_66 : decode b_Vs_init 66 = .ok (.lconst 0, 1) := by decide +kernel
theorem d_Vs_init_67 : decode b_Vs_init 67 = .ok (.getstatic 15, 3) := by decide +kernel
theorem d_Vs_init_70 : decode b_Vs_init 70 = .ok (.aload_n 0, 1) := by decide +kernel
theorem d_Vs_init_71 : decode b_Vs_init 71 = .ok (.getfield 9, 3) := by decide +kernel
theorem d_Vs_init_74 : decode b_Vs_init 74 = .ok (.aload_n 0, 1) := by decide +kernel
theorem d_Vs_init_75 : decode b_Vs_init 75 = .ok (.getfield 9, 3) := by decide +kernel
theorem d_Vs_init_78 : decode b_Vs_init 78 = .ok (.invokespecial 19, 3) := by decide +kernel
theorem d_Vs_init_81 : decode b_Vs_init 81 = .ok (.putfield 29, 3) := by decide +kernel
theorem d_Vs_init_84 : decode b_Vs_init 84 = .ok (.aload_n 0, 1) := by decide +kernel
theorem d_Vs_init_85 : decode b_Vs_init 85 = .ok (.bipush 26, 2) := by decide +kernel
theorem d_Vs_init_87 : decode b_Vs_init 87 = .ok (.anewarray 7, 3) := by decide +kernel
theorem d_Vs_init_90 : decode b_Vs_init 90 = .ok (.putfield 34, 3) := by decide +kernel
theorem d_Vs_init_93 : decode b_Vs_init 93 = .ok (.iconst 0, 1) := by decide +kernel
theorem d_Vs_init_94 : decode b_Vs_init 94 = .ok (.istore_n 1, 1) := by decide +kernel
theorem d_Vs_init_95 : decode b_Vs_init 95 = .ok (.iload_n 1, 1) := by decide +kernel
theorem d_Vs_init_96 : decode b_Vs_init 96 = .ok (.aload_n 0, 1) := by decide +kernel
theorem d_Vs_init_97 : decode b_Vs_init 97 = .ok (.getfield 34, 3) := by decide +kernel
theorem d_Vs_init_100 : decode b_Vs_init 100 = .ok (.arraylength, 1) := by decide +kernel
theorem d_Vs_init_101 : decode b_Vs_init 101 = .ok (.if_icmp .ge 45, 3) := by decide +kernel
theorem d_Vs_init_104 : decode b_Vs_init 104 = .ok (.iconst 1, 1) := by decide +kernel
theorem d_Vs_init_105 : decode b_Vs_init 105 = .ok (.newarray .char, 2) := by decide +kernel
theorem d_Vs_init_107 : decode b_Vs_init 107 = .ok (.dup, 1) := by decide +kernel
theorem d_Vs_init_108 : decode b_Vs_init 108 = .ok (.iconst 0, 1) := by decide +kernel
theorem d_Vs_init_109 : decode b_Vs_init 109 = .ok (.bipush 97, 2) := by decide +kernel
theorem d_Vs_init_111 : decode b_Vs_init 111 = .ok (.iload_n 1, 1) := by decide +kernel
theorem d_Vs_init_112 : decode b_Vs_init 112 = .ok (.iadd, 1) := by decide +kernel
theorem d_Vs_init_113 : decode b_Vs_init 113 = .ok (.i2c, 1) := by decide +kernel
theorem d_Vs_init_114 : decode b_Vs_init 114 = .ok (.castore, 1) := by decide +kernel
theorem d_Vs_init_115 : decode b_Vs_init 115 = .ok (.astore_n 2, 1) := by decide +kernel
theorem d_Vs_init_116 : decode b_Vs_init 116 = .ok (.aload_n 0, 1) := by decide +kernel
theorem d_Vs_init_117 : decode b_Vs_init 117 = .ok (.getfield 34, 3) := by decide +kernel
theorem d_Vs_init_120 : decode b_Vs_init 120 = .ok (.iload_n 1, 1) := by decide +kernel
theorem d_Vs_init_121 : decode b_Vs_init 121 = .ok (.new 7, 3) := by decide +kernel
theorem d_Vs_init_124 : decode b_Vs_init 124 = .ok (.dup, 1) := by decide +kernel
theorem d_Vs_init_125 : decode b_Vs_init 125 = .ok (.iconst 4, 1) := by decide +kernel
theorem d_Vs_init_126 : decode b_Vs_init 126 = .ok (.lconst 0, 1) := by decide +kernel
theorem d_Vs_init_127 : decode b_Vs_init 127 = .ok (.aload_n 2, 1) := by decide +kernel
theorem d_Vs_init_128 : decode b_Vs_init 128 = .ok (.aload_n 0, 1) := by decide +kernel
theorem d_Vs_init_129 : decode b_Vs_init 129 = .ok (.getfield 9, 3) := by decide +kernel
theorem d_Vs_init_132 : decode b_Vs_init 132 = .ok (.aload_n 0, 1) := by decide +kernel
theorem d_Vs_init_133 : decode b_Vs_init 133 = .ok (.getfield 9, 3) := by decide +kernel
theorem d_Vs_init_136 : decode b_Vs_init 136 = .ok (.invokespecial 19, 3) := by decide +kernel
theorem d_Vs_init_139 : decode b_Vs_init 139 = .ok (.aastore, 1) := by decide +kernel
theorem d_Vs_init_140 : decode b_Vs_init 140 = .ok (.iinc 1 1, 3) := by decide +kernel
theorem d_Vs_init_143 : decode b_Vs_init 143 = .ok (.goto (-48), 3) := by decide +kernel
theorem d_Vs_init_146 : decode b_Vs_init 146 = .ok (.aload_n 0, 1) := by decide +kernel
theorem d_Vs_init_147 : decode b_Vs_init 147 = .ok (.new 37, 3) := by decide +kernel
theorem d_Vs_init_150 : decode b_Vs_init 150 = .ok (.dup, 1) := by decide +kernel
theorem d_Vs_init_151 : decode b_Vs_init 151 = .ok (.invokespecial 39, 3) := by decide +kernel
theorem d_Vs_init_154 : decode b_Vs_init 154 = .ok (.putfield 40, 3) := by decide +kernel
theorem d_Vs_init_157 : decode b_Vs_init 157 = .ok (.return_, 1) := by decide +kernel
set_option maxHeartbeats 4000000 in
set_option maxRecDepth 100000 in
theorem c_Vs_init (l : Launch) (E : gh_E) (sz : Nat) (f : gh_F) (a : Nat) (ha : f a = some (.inr (7, [.null, .null, .null, .null, .null, .null]))) : gh_M l y_Vs_init b_Vs_init 3 none E sz [.ref a] f { frames := 3, cells := 60, slots := 290, locals := 80 } (fun r g1 => r = none ∧ ∃ (ni nu no ye al ga k i : Nat) (g : Nat → Option Nat) (X K : Nat → Nat), (f ni = none ∧ f nu = none ∧ f no = none ∧ f ye = none ∧ f al = none ∧ f ga = none ∧ f k = none ∧ f i = none) ∧ k ≠ i ∧ g1 a = some (.inr (7, [.ref nu, .ref no, .ref ye, .ref ni, .ref al, .ref ga])) ∧ g1 ni = some (.inl (E.2.2.1 4, 0, .inr (.inr (.inr (.inr (fun _ => none)))))) ∧ g1 nu = some (.inr (6, [.int 0, .long 0, .ref (E.2.2.2 1), .ref ni, .ref ni, .int 1, .int 0])) ∧ g1 no = some (.inr (6, [.int 1, .long 0, .ref (E.2.2.2 1), .ref ni, .ref ni, .int 1, .int 0])) ∧ g1 ye = some (.inr (6, [.int 2, .long 0, .ref (E.2.2.2 1), .ref ni, .ref ni, .int 1, .int 0])) ∧ g1 al = some (.inl (E.2.2.1 4, 26, .inr (.inr (.inr (.inr g))))) ∧ gh_Ls E f g1 g 26 X K ni ∧ g1 ga = some (.inr (1, [.ref k, .ref i, .int 0])) ∧ g1 k = some (gh_A16 E) ∧ g1 i = some (gh_A16 E) ∧ gh_fr f g1 (fun b => b ∈ ([a] : List Nat))) := by
  refine gh_open (by decide) (Nat.le_of_ble_eq_true rfl) ?_
  intro p e s m args below meth c A ls hAe C V hr hlocks hname hl
  have hx := C.1
  have hb := C.2.1
  have hini : meth.name = "<init>" := hname
  have hl : lv_has ls 3 [(0, .ref a)] := hl
  have hfr : gh_fr f f (fun b => b ∈ ([a] : List Nat)) := gh_fr.rf
  refine lv_aload_n hx hb d_Vs_init_0 rfl (lv_at hl 0 rfl) ?_
  refine gh_obj C hl.1 o_Vs_1 (by decide) (by decide) d_Vs_init_1 ?_
  refine lv_aload_n hx hb d_Vs_init_4 rfl (lv_at hl 0 rfl) ?_
  refine lv_iconst (v := 0) hx hb d_Vs_init_5 (by decide) ?_
  refine gh_newq (t0 := 4) (N := 0) C V k_Vs_7 C.2.2.2.2.2.2.2.1.2.2.2.2.2.2.1 rfl (by decide) (by decide) (by decide) (by first | decide | omega | (dsimp only; omega)) (by first | decide | omega | (dsimp only; omega)) d_Vs_init_6 (fun q1 H hnq1 V => ?_)
  obtain ⟨f2, hff2⟩ : ∃ z9 : gh_F, z9 = gh_u f q1 (.inl (E.2.2.1 4, 0, .inr (.inr (.inr (.inr (fun _ => none)))))) := ⟨_, rfl⟩
  have V : gh_V E A f2 s H [] := by rw [hff2]; exact V
  have nz_q1 : f q1 = none := hfr.non hnq1
  have hfr : gh_fr f f2 (fun b => b ∈ ([a] : List Nat)) := by rw [hff2]; exact hfr.put (Or.inr nz_q1)
  have ne_a_q1 : a ≠ q1 := gh_ne0 ha hnq1
  have h_a_f2 : f2 a = some (.inr (7, [.null, .null, .null, .null, .null, .null])) := by rw [hff2, gh_un ne_a_q1]; exact ha
  have h_q1_f2 : f2 q1 = some (.inl (E.2.2.1 4, 0, .inr (.inr (.inr (.inr (fun _ => none)))))) := by rw [hff2, gh_us]
  refine gh_putF C V hini h_a_f2 gc_Vs gi_Vs ty_Vs nm_Vs 3 (by decide) f_Vs_9 rfl (by first | rfl | decide) (by first | rfl | decide) (Nat.le_of_ble_eq_true rfl) d_Vs_init_9 (fun H locs V => ?_)
  obtain ⟨f3, hff3⟩ : ∃ z9 : gh_F, z9 = gh_u f2 a (.inr (7, [.null, .null, .null, .ref q1, .null, .null])) := ⟨_, rfl⟩
  have V : gh_V E A f3 s H locs := by rw [hff3]; exact V
  have hfr : gh_fr f f3 (fun b => b ∈ ([a] : List Nat)) := by rw [hff3]; exact hfr.put (Or.inl (by simp))
  have h_q1_f3 : f3 q1 = some (.inl (E.2.2.1 4, 0, .inr (.inr (.inr (.inr (fun _ => none)))))) := by rw [hff3, gh_un (Ne.symm ne_a_q1)]; exact h_q1_f2
  have h_a_f3 : f3 a = some (.inr (7, [.null, .null, .null, .ref q1, .null, .null])) := by rw [hff3, gh_us]
  refine lv_aload_n hx hb d_Vs_init_12 rfl (lv_at hl 0 rfl) ?_
  refine gh_new (fs := [.int 0, .long 0, .null, .null, .null, .int 0, .int 0]) C V gc_Va gi_Va ty_Va k_Vs_7 n_Va i_Va (by decide) (by first | decide | omega | (dsimp only; omega)) (by first | decide | omega | (dsimp only; omega)) d_Vs_init_13 (fun q4 H hnq4 V => ?_)
  obtain ⟨f5, hff5⟩ : ∃ z9 : gh_F, z9 = gh_u f3 q4 (.inr (6, [.int 0, .long 0, .null, .null, .null, .int 0, .int 0])) := ⟨_, rfl⟩
  have V : gh_V E A f5 s H locs := by rw [hff5]; exact V
  have nz_q4 : f q4 = none := hfr.non hnq4
  have hfr : gh_fr f f5 (fun b => b ∈ ([a] : List Nat)) := by rw [hff5]; exact hfr.put (Or.inr nz_q4)
  have ne_q1_q4 : q1 ≠ q4 := gh_ne0 h_q1_f3 hnq4
  have h_q1_f5 : f5 q1 = some (.inl (E.2.2.1 4, 0, .inr (.inr (.inr (.inr (fun _ => none)))))) := by rw [hff5, gh_un ne_q1_q4]; exact h_q1_f3
  have ne_a_q4 : a ≠ q4 := gh_ne0 h_a_f3 hnq4
  have h_a_f5 : f5 a = some (.inr (7, [.null, .null, .null, .ref q1, .null, .null])) := by rw [hff5, gh_un ne_a_q4]; exact h_a_f3
  have h_q4_f5 : f5 q4 = some (.inr (6, [.int 0, .long 0, .null, .null, .null, .int 0, .int 0])) := by rw [hff5, gh_us]
  refine lv_dup hx hb d_Vs_init_16 rfl ?_
  refine lv_iconst (v := 0) hx hb d_Vs_init_17 (by decide) ?_
  refine lv_lconst (v := 0) hx hb d_Vs_init_18 (by decide) ?_
  refine gh_nolet C V f_Vs_15 d_Vs_init_19 ?_
  refine lv_aload_n hx hb d_Vs_init_22 rfl (lv_at hl 0 rfl) ?_
  refine gh_get C V h_a_f5 gc_Vs gi_Vs 3 (by decide) f_Vs_9 rfl rfl d_Vs_init_23 ?_
  refine lv_aload_n hx hb d_Vs_init_26 rfl (lv_at hl 0 rfl) ?_
  refine gh_get C V h_a_f5 gc_Vs gi_Vs 3 (by decide) f_Vs_9 rfl rfl d_Vs_init_27 ?_
  refine gh_callI C V hl.1 m_Va_init l_Vs_19 (c_Va_init l E _ f5 q4 0 0 (E.2.2.2 1) q1 q1 0 (fun _ => none) (fun _ => 0) (fun _ => 0) (fun _ => 0) h_q4_f5 h_q1_f5 (by decide) (fun j hj => absurd hj (Nat.not_lt_zero j))) rfl ⟨by first | decide | omega | (dsimp only; omega), by first | decide | omega | (dsimp only; omega)⟩ ⟨by first | decide | omega | (dsimp only; omega), by first | decide | omega | (dsimp only; omega)⟩ (Nat.le_of_ble_eq_true rfl) rfl d_Vs_init_30 (fun r f6 H locs hp V => ?_)
  obtain ⟨rfl, h_q4_c, hfr2⟩ := hp
  refine W.eq (g2 := F0 m 33 ls [.ref q4, .ref a]) rfl ?_
  have h_q1_f6 : f6 q1 = some (.inl (E.2.2.1 4, 0, .inr (.inr (.inr (.inr (fun _ => none)))))) := hfr2.at1 h_q1_f5 ne_q1_q4
  have h_a_f6 : f6 a = some (.inr (7, [.null, .null, .null, .ref q1, .null, .null])) := hfr2.at1 h_a_f5 ne_a_q4
  have hfr : gh_fr f f6 (fun b => b ∈ ([a] : List Nat)) := hfr.tr1 hfr2 (Or.inr nz_q4)
  have h_q4_c : f6 q4 = some (.inr (6, [.int 0, .long 0, .ref (E.2.2.2 1), .ref q1, .ref q1, .int 1, .int 0])) := h_q4_c
  refine gh_putF C V hini h_a_f6 gc_Vs gi_Vs ty_Vs nm_Vs 0 (by decide) f_Vs_22 rfl (by first | rfl | decide) (by first | rfl | decide) (Nat.le_of_ble_eq_true rfl) d_Vs_init_33 (fun H locs V => ?_)
  obtain ⟨f7, hff7⟩ : ∃ z9 : gh_F, z9 = gh_u f6 a (.inr (7, [.ref q4, .null, .null, .ref q1, .null, .null])) := ⟨_, rfl⟩
  have V : gh_V E A f7 s H locs := by rw [hff7]; exact V
  have hfr : gh_fr f f7 (fun b => b ∈ ([a] : List Nat)) := by rw [hff7]; exact hfr.put (Or.inl (by simp))
  have h_q1_f7 : f7 q1 = some (.inl (E.2.2.1 4, 0, .inr (.inr (.inr (.inr (fun _ => none)))))) := by rw [hff7, gh_un (Ne.symm ne_a_q1)]; exact h_q1_f6
  have h_q4_f7 : f7 q4 = some (.inr (6, [.int 0, .long 0, .ref (E.2.2.2 1), .ref q1, .ref q1, .int 1, .int 0])) := by rw [hff7, gh_un (Ne.symm ne_a_q4)]; exact h_q4_c
  have h_a_f7 : f7 a = some (.inr (7, [.ref q4, .null, .null, .ref q1, .null, .null])) := by rw [hff7, gh_us]
  refine lv_aload_n hx hb d_Vs_init_36 rfl (lv_at hl 0 rfl) ?_
  refine gh_new (fs := [.int 0, .long 0, .null, .null, .null, .int 0, .int 0]) C V gc_Va gi_Va ty_Va k_Vs_7 n_Va i_Va (by decide) (by first | decide | omega | (dsimp only; omega)) (by first | decide | omega | (dsimp only; omega)) d_Vs_init_37 (fun q8 H hnq8 V => ?_)
  obtain ⟨f9, hff9⟩ : ∃ z9 : gh_F, z9 = gh_u f7 q8 (.inr (6, [.int 0, .long 0, .null, .null, .null, .int 0, .int 0])) := ⟨_, rfl⟩
  have V : gh_V E A f9 s H locs := by rw [hff9]; exact V
  have nz_q8 : f q8 = none := hfr.non hnq8
  have hfr : gh_fr f f9 (fun b => b ∈ ([a] : List Nat)) := by rw [hff9]; exact hfr.put (Or.inr nz_q8)
  have ne_q1_q8 : q1 ≠ q8 := gh_ne0 h_q1_f7 hnq8
  have h_q1_f9 : f9 q1 = some (.inl (E.2.2.1 4, 0, .inr (.inr (.inr (.inr (fun _ => none)))))) := by rw [hff9, gh_un ne_q1_q8]; exact h_q1_f7
  have ne_q4_q8 : q4 ≠ q8 := gh_ne0 h_q4_f7 hnq8
  have h_q4_f9 : f9 q4 = some (.inr (6, [.int 0, .long 0, .ref (E.2.2.2 1), .ref q1, .ref q1, .int 1, .int 0])) := by rw [hff9, gh_un ne_q4_q8]; exact h_q4_f7
  have ne_a_q8 : a ≠ q8 := gh_ne0 h_a_f7 hnq8
  have h_a_f9 : f9 a = some (.inr (7, [.ref q4, .null, .null, .ref q1, .null, .null])) := by rw [hff9, gh_un ne_a_q8]; exact h_a_f7
  have h_q8_f9 : f9 q8 = some (.inr (6, [.int 0, .long 0, .null, .null, .null, .int 0, .int 0])) := by rw [hff9, gh_us]
  refine lv_dup hx hb d_Vs_init_40 rfl ?_
  refine lv_iconst (v := 1) hx hb d_Vs_init_41 (by decide) ?_
  refine lv_lconst (v := 0) hx hb d_Vs_init_42 (by decide) ?_
  refine gh_nolet C V f_Vs_15 d_Vs_init_43 ?_
  refine lv_aload_n hx hb d_Vs_init_46 rfl (lv_at hl 0 rfl) ?_
  refine gh_get C V h_a_f9 gc_Vs gi_Vs 3 (by decide) f_Vs_9 rfl rfl d_Vs_init_47 ?_
  refine lv_aload_n hx hb d_Vs_init_50 rfl (lv_at hl 0 rfl) ?_
  refine gh_get C V h_a_f9 gc_Vs gi_Vs 3 (by decide) f_Vs_9 rfl rfl d_Vs_init_51 ?_
  refine gh_callI C V hl.1 m_Va_init l_Vs_19 (c_Va_init l E _ f9 q8 1 0 (E.2.2.2 1) q1 q1 0 (fun _ => none) (fun _ => 0) (fun _ => 0) (fun _ => 0) h_q8_f9 h_q1_f9 (by decide) (fun j hj => absurd hj (Nat.not_lt_zero j))) rfl ⟨by first | decide | omega | (dsimp only; omega), by first | decide | omega | (dsimp only; omega)⟩ ⟨by first | decide | omega | (dsimp only; omega), by first | decide | omega | (dsimp only; omega)⟩ (Nat.le_of_ble_eq_true rfl) rfl d_Vs_init_54 (fun r f10 H locs hp V => ?_)
  obtain ⟨rfl, h_q8_c, hfr2⟩ := hp
  refine W.eq (g2 := F0 m 57 ls [.ref q8, .ref a]) rfl ?_
  have h_q1_f10 : f10 q1 = some (.inl (E.2.2.1 4, 0, .inr (.inr (.inr (.inr (fun _ => none)))))) := hfr2.at1 h_q1_f9 ne_q1_q8
  have h_q4_f10 : f10 q4 = some (.inr (6, [.int 0, .long 0, .ref (E.2.2.2 1), .ref q1, .ref q1, .int 1, .int 0])) := hfr2.at1 h_q4_f9 ne_q4_q8
  have h_a_f10 : f10 a = some (.inr (7, [.ref q4, .null, .null, .ref q1, .null, .null])) := hfr2.at1 h_a_f9 ne_a_q8
  have hfr : gh_fr f f10 (fun b => b ∈ ([a] : List Nat)) := hfr.tr1 hfr2 (Or.inr nz_q8)
  have h_q8_c : f10 q8 = some (.inr (6, [.int 1, .long 0, .ref (E.2.2.2 1), .ref q1, .ref q1, .int 1, .int 0])) := h_q8_c
  refine gh_putF C V hini h_a_f10 gc_Vs gi_Vs ty_Vs nm_Vs 1 (by decide) f_Vs_26 rfl (by first | rfl | decide) (by first | rfl | decide) (Nat.le_of_ble_eq_true rfl) d_Vs_init_57 (fun H locs V => ?_)
  obtain ⟨f11, hff11⟩ : ∃ z9 : gh_F, z9 = gh_u f10 a (.inr (7, [.ref q4, .ref q8, .null, .ref q1, .null, .null])) := ⟨_, rfl⟩
  have V : gh_V E A f11 s H locs := by rw [hff11]; exact V
  have hfr : gh_fr f f11 (fun b => b ∈ ([a] : List Nat)) := by rw [hff11]; exact hfr.put (Or.inl (by simp))
  have h_q1_f11 : f11 q1 = some (.inl (E.2.2.1 4, 0, .inr (.inr (.inr (.inr (fun _ => none)))))) := by rw [hff11, gh_un (Ne.symm ne_a_q1)]; exact h_q1_f10
  have h_q4_f11 : f11 q4 = some (.inr (6, [.int 0, .long 0, .ref (E.2.2.2 1), .ref q1, .ref q1, .int 1, .int 0])) := by rw [hff11, gh_un (Ne.symm ne_a_q4)]; exact h_q4_f10
  have h_q8_f11 : f11 q8 = some (.inr (6, [.int 1, .long 0, .ref (E.2.2.2 1), .ref q1, .ref q1, .int 1, .int 0])) := by rw [hff11, gh_un (Ne.symm ne_a_q8)]; exact h_q8_c
  have h_a_f11 : f11 a = some (.inr (7, [.ref q4, .ref q8, .null, .ref q1, .null, .null])) := by rw [hff11, gh_us]
  refine lv_aload_n hx hb d_Vs_init_60 rfl (lv_at hl 0 rfl) ?_
  refine gh_new (fs := [.int 0, .long 0, .null, .null, .null, .int 0, .int 0]) C V gc_Va gi_Va ty_Va k_Vs_7 n_Va i_Va (by decide) (by first | decide | omega | (dsimp only; omega)) (by first | decide | omega | (dsimp only; omega)) d_Vs_init_61 (fun q12 H hnq12 V => ?_)
  obtain ⟨f13, hff13⟩ : ∃ z9 : gh_F, z9 = gh_u f11 q12 (.inr (6, [.int 0, .long 0, .null, .null, .null, .int 0, .int 0])) := ⟨_, rfl⟩
  have V : gh_V E A f13 s H locs := by rw [hff13]; exact V
  have nz_q12 : f q12 = none := hfr.non hnq12
  have hfr : gh_fr f f13 (fun b => b ∈ ([a] : List Nat)) := by rw [hff13]; exact hfr.put (Or.inr nz_q12)
  have ne_q1_q12 : q1 ≠ q12 := gh_ne0 h_q1_f11 hnq12
  have h_q1_f13 : f13 q1 = some (.inl (E.2.2.1 4, 0, .inr (.inr (.inr (.inr (fun _ => none)))))) := by rw [hff13, gh_un ne_q1_q12]; exact h_q1_f11
  have ne_q4_q12 : q4 ≠ q12 := gh_ne0 h_q4_f11 hnq12
  have h_q4_f13 : f13 q4 = some (.inr (6, [.int 0, .long 0, .ref (E.2.2.2 1), .ref q1, .ref q1, .int 1, .int 0])) := by rw [hff13, gh_un ne_q4_q12]; exact h_q4_f11
  have ne_q8_q12 : q8 ≠ q12 := gh_ne0 h_q8_f11 hnq12
  have h_q8_f13 : f13 q8 = some (.inr (6, [.int 1, .long 0, .ref (E.2.2.2 1), .ref q1, .ref q1, .int 1, .int 0])) := by rw [hff13, gh_un ne_q8_q12]; exact h_q8_f11
  have ne_a_q12 : a ≠ q12 := gh_ne0 h_a_f11 hnq12
  have h_a_f13 : f13 a = some (.inr (7, [.ref q4, .ref q8, .null, .ref q1, .null, .null])) := by rw [hff13, gh_un ne_a_q12]; exact h_a_f11
  have h_q12_f13 : f13 q12 = some (.inr (6, [.int 0, .long 0, .null, .null, .null, .int 0, .int 0])) := by rw [hff13, gh_us]
  refine lv_dup hx hb d_Vs_init_64 rfl ?_
  refine lv_iconst (v := 2) hx hb d_Vs_init_65 (by decide) ?_
  refine lv_lconst (v := 0) hx hb d_Vs_init_66 (by decide) ?_
  refine gh_nolet C V f_Vs_15 d_Vs_init_67 ?_
  refine lv_aload_n hx hb d_Vs_init_70 rfl (lv_at hl 0 rfl) ?_
  refine gh_get C V h_a_f13 gc_Vs gi_Vs 3 (by decide) f_Vs_9 rfl rfl d_Vs_init_71 ?_
  refine lv_aload_n hx hb d_Vs_init_74 rfl (lv_at hl 0 rfl) ?_
  refine gh_get C V h_a_f13 gc_Vs gi_Vs 3 (by decide) f_Vs_9 rfl rfl d_Vs_init_75 ?_
  refine gh_callI C V hl.1 m_Va_init l_Vs_19 (c_Va_init l E _ f13 q12 2 0 (E.2.2.2 1) q1 q1 0 (fun _ => none) (fun _ => 0) (fun _ => 0) (fun _ => 0) h_q12_f13 h_q1_f13 (by decide) (fun j hj => absurd hj (Nat.not_lt_zero j))) rfl ⟨by first | decide | omega | (dsimp only; omega), by first | decide | omega | (dsimp only; omega)⟩ ⟨by first | decide | omega | (dsimp only; omega), by first | decide | omega | (dsimp only; omega)⟩ (Nat.le_of_ble_eq_true rfl) rfl d_Vs_init_78 (fun r f14 H locs hp V => ?_)
  obtain ⟨rfl, h_q12_c, hfr2⟩ := hp
  refine W.eq (g2 := F0 m 81 ls [.ref q12, .ref a]) rfl ?_
  have h_q1_f14 : f14 q1 = some (.inl (E.2.2.1 4, 0, .inr (.inr (.inr (.inr (fun _ => none)))))) := hfr2.at1 h_q1_f13 ne_q1_q12
  have h_q4_f14 : f14 q4 = some (.inr (6, [.int 0, .long 0, .ref (E.2.2.2 1), .ref q1, .ref q1, .int 1, .int 0])) := hfr2.at1 h_q4_f13 ne_q4_q12
  have h_q8_f14 : f14 q8 = some (.inr (6, [.int 1, .long 0, .ref (E.2.2.2 1), .ref q1, .ref q1, .int 1, .int 0])) := hfr2.at1 h_q8_f13 ne_q8_q12
  have h_a_f14 : f14 a = some (.inr (7, [.ref q4, .ref q8, .null, .ref q1, .null, .null])) := hfr2.at1 h_a_f13 ne_a_q12
  have hfr : gh_fr f f14 (fun b => b ∈ ([a] : List Nat)) := hfr.tr1 hfr2 (Or.inr nz_q12)
  have h_q12_c : f14 q12 = some (.inr (6, [.int 2, .long 0, .ref (E.2.2.2 1), .ref q1, .ref q1, .int 1, .int 0])) := h_q12_c
  refine gh_putF C V hini h_a_f14 gc_Vs gi_Vs ty_Vs nm_Vs 2 (by decide) f_Vs_29 rfl (by first | rfl | decide) (by first | rfl | decide) (Nat.le_of_ble_eq_true rfl) d_Vs_init_81 (fun H locs V => ?_)
  obtain ⟨f15, hff15⟩ : ∃ z9 : gh_F, z9 = gh_u f14 a (.inr (7, [.ref q4, .ref q8, .ref q12, .ref q1, .null, .null])) := ⟨_, rfl⟩
  have V : gh_V E A f15 s H locs := by rw [hff15]; exact V
  have hfr : gh_fr f f15 (fun b => b ∈ ([a] : List Nat)) := by rw [hff15]; exact hfr.put (Or.inl (by simp))
  have h_q1_f15 : f15 q1 = some (.inl (E.2.2.1 4, 0, .inr (.inr (.inr (.inr (fun _ => none)))))) := by rw [hff15, gh_un (Ne.symm ne_a_q1)]; exact h_q1_f14
  have h_q4_f15 : f15 q4 = some (.inr (6, [.int 0, .long 0, .ref (E.2.2.2 1), .ref q1, .ref q1, .int 1, .int 0])) := by rw [hff15, gh_un (Ne.symm ne_a_q4)]; exact h_q4_f14
  have h_q8_f15 : f15 q8 = some (.inr (6, [.int 1, .long 0, .ref (E.2.2.2 1), .ref q1, .ref q1, .int 1, .int 0])) := by rw [hff15, gh_un (Ne.symm ne_a_q8)]; exact h_q8_f14
  have h_q12_f15 : f15 q12 = some (.inr (6, [.int 2, .long 0, .ref (E.2.2.2 1), .ref q1, .ref q1, .int 1, .int 0])) := by rw [hff15, gh_un (Ne.symm ne_a_q12)]; exact h_q12_c
  have h_a_f15 : f15 a = some (.inr (7, [.ref q4, .ref q8, .ref q12, .ref q1, .null, .null])) := by rw [hff15, gh_us]
  refine lv_aload_n hx hb d_Vs_init_84 rfl (lv_at hl 0 rfl) ?_
  refine lv_bipush (v := 26) hx hb d_Vs_init_85 (by decide) ?_
  refine gh_newq (t0 := 4) (N := 26) C V k_Vs_7 C.2.2.2.2.2.2.2.1.2.2.2.2.2.2.1 rfl (by decide) (by decide) (by decide) (by first | decide | omega | (dsimp only; omega)) (by first | decide | omega | (dsimp only; omega)) d_Vs_init_87 (fun q16 H hnq16 V => ?_)
  obtain ⟨f17, hff17⟩ : ∃ z9 : gh_F, z9 = gh_u f15 q16 (.inl (E.2.2.1 4, 26, .inr (.inr (.inr (.inr (fun _ => none)))))) := ⟨_, rfl⟩
  have V : gh_V E A f17 s H locs := by rw [hff17]; exact V
  have nz_q16 : f q16 = none := hfr.non hnq16
  have hfr : gh_fr f f17 (fun b => b ∈ ([a] : List Nat)) := by rw [hff17]; exact hfr.put (Or.inr nz_q16)
  have ne_q1_q16 : q1 ≠ q16 := gh_ne0 h_q1_f15 hnq16
  have h_q1_f17 : f17 q1 = some (.inl (E.2.2.1 4, 0, .inr (.inr (.inr (.inr (fun _ => none)))))) := by rw [hff17, gh_un ne_q1_q16]; exact h_q1_f15
  have ne_q4_q16 : q4 ≠ q16 := gh_ne0 h_q4_f15 hnq16
  have h_q4_f17 : f17 q4 = some (.inr (6, [.int 0, .long 0, .ref (E.2.2.2 1), .ref q1, .ref q1, .int 1, .int 0])) := by rw [hff17, gh_un ne_q4_q16]; exact h_q4_f15
  have ne_q8_q16 : q8 ≠ q16 := gh_ne0 h_q8_f15 hnq16
  have h_q8_f17 : f17 q8 = some (.inr (6, [.int 1, .long 0, .ref (E.2.2.2 1), .ref q1, .ref q1, .int 1, .int 0])) := by rw [hff17, gh_un ne_q8_q16]; exact h_q8_f15
  have ne_q12_q16 : q12 ≠ q16 := gh_ne0 h_q12_f15 hnq16
  have h_q12_f17 : f17 q12 = some (.inr (6, [.int 2, .long 0, .ref (E.2.2.2 1), .ref q1, .ref q1, .int 1, .int 0])) := by rw [hff17, gh_un ne_q12_q16]; exact h_q12_f15
  have ne_a_q16 : a ≠ q16 := gh_ne0 h_a_f15 hnq16
  have h_a_f17 : f17 a = some (.inr (7, [.ref q4, .ref q8, .ref q12, .ref q1, .null, .null])) := by rw [hff17, gh_un ne_a_q16]; exact h_a_f15
  have h_q16_f17 : f17 q16 = some (.inl (E.2.2.1 4, 26, .inr (.inr (.inr (.inr (fun _ => none)))))) := by rw [hff17, gh_us]
  refine gh_putF C V hini h_a_f17 gc_Vs gi_Vs ty_Vs nm_Vs 4 (by decide) f_Vs_34 rfl (by first | rfl | decide) (by first | rfl | decide) (Nat.le_of_ble_eq_true rfl) d_Vs_init_90 (fun H locs V => ?_)
  obtain ⟨f18, hff18⟩ : ∃ z9 : gh_F, z9 = gh_u f17 a (.inr (7, [.ref q4, .ref q8, .ref q12, .ref q1, .ref q16, .null])) := ⟨_, rfl⟩
  have V : gh_V E A f18 s H locs := by rw [hff18]; exact V
  have hfr : gh_fr f f18 (fun b => b ∈ ([a] : List Nat)) := by rw [hff18]; exact hfr.put (Or.inl (by simp))
  have h_q1_f18 : f18 q1 = some (.inl (E.2.2.1 4, 0, .inr (.inr (.inr (.inr (fun _ => none)))))) := by rw [hff18, gh_un (Ne.symm ne_a_q1)]; exact h_q1_f17
  have h_q4_f18 : f18 q4 = some (.inr (6, [.int 0, .long 0, .ref (E.2.2.2 1), .ref q1, .ref q1, .int 1, .int 0])) := by rw [hff18, gh_un (Ne.symm ne_a_q4)]; exact h_q4_f17
  have h_q8_f18 : f18 q8 = some (.inr (6, [.int 1, .long 0, .ref (E.2.2.2 1), .ref q1, .ref q1, .int 1, .int 0])) := by rw [hff18, gh_un (Ne.symm ne_a_q8)]; exact h_q8_f17
  have h_q12_f18 : f18 q12 = some (.inr (6, [.int 2, .long 0, .ref (E.2.2.2 1), .ref q1, .ref q1, .int 1, .int 0])) := by rw [hff18, gh_un (Ne.symm ne_a_q12)]; exact h_q12_f17
  have h_q16_f18 : f18 q16 = some (.inl (E.2.2.1 4, 26, .inr (.inr (.inr (.inr (fun _ => none)))))) := by rw [hff18, gh_un (Ne.symm ne_a_q16)]; exact h_q16_f17
  have h_a_f18 : f18 a = some (.inr (7, [.ref q4, .ref q8, .ref q12, .ref q1, .ref q16, .null])) := by rw [hff18, gh_us]
  refine lv_iconst (v := 0) hx hb d_Vs_init_93 (by decide) ?_
  refine lv_istore_n hx hb d_Vs_init_94 rfl hl (by decide) rfl (fun ls hl => ?_)
  have hl : lv_has ls 3 [(1, .int 0), (0, .ref a)] := hl
  have hl : lv_has ls 3 [(1, .int 0), (0, .ref a)] := lv_sub hl [0, 1] rfl
  have hfrLA := hfr
  have hl : lv_has ls 3 [(1, .int (nI 0)), (0, .ref a)] := hl
  have loopA : ∀ (n i : Nat) (f1A : gh_F) (H : Heap) (locs : List Loc) (ls : Array Slot) (gA : Nat → Option Nat) (XA KA : Nat → Nat), i + n = 26 → f1A q16 = some (.inl (E.2.2.1 4, 26, .inr (.inr (.inr (.inr gA))))) → gh_Ls E f18 f1A gA i XA KA q1 → gh_fr f18 f1A (fun b => b ∈ ([q16] : List Nat)) → gh_V E A f1A s H locs → lv_has ls 3 [(1, .int (nI i)), (0, .ref a)] → W p l e { frames := 3, cells := 60, slots := 290, locals := 80 } s m args below meth c H locs (5 + 2 * i) (47 + 8 * i) (MQ below (gh_Q E f (fun r g1 => r = none ∧ ∃ (ni nu no ye al ga k i : Nat) (g : Nat → Option Nat) (X K : Nat → Nat), (f ni = none ∧ f nu = none ∧ f no = none ∧ f ye = none ∧ f al = none ∧ f ga = none ∧ f k = none ∧ f i = none) ∧ k ≠ i ∧ g1 a = some (.inr (7, [.ref nu, .ref no, .ref ye, .ref ni, .ref al, .ref ga])) ∧ g1 ni = some (.inl (E.2.2.1 4, 0, .inr (.inr (.inr (.inr (fun _ => none)))))) ∧ g1 nu = some (.inr (6, [.int 0, .long 0, .ref (E.2.2.2 1), .ref ni, .ref ni, .int 1, .int 0])) ∧ g1 no = some (.inr (6, [.int 1, .long 0, .ref (E.2.2.2 1), .ref ni, .ref ni, .int 1, .int 0])) ∧ g1 ye = some (.inr (6, [.int 2, .long 0, .ref (E.2.2.2 1), .ref ni, .ref ni, .int 1, .int 0])) ∧ g1 al = some (.inl (E.2.2.1 4, 26, .inr (.inr (.inr (.inr g))))) ∧ gh_Ls E f g1 g 26 X K ni ∧ g1 ga = some (.inr (1, [.ref k, .ref i, .int 0])) ∧ g1 k = some (gh_A16 E) ∧ g1 i = some (gh_A16 E) ∧ gh_fr f g1 (fun b => b ∈ ([a] : List Nat)))) args s 60 290 A) (F0 m 95 ls []) := by
    intro n
    induction n with
    | zero =>
      intro i f1A H locs ls gA XA KA hi harrA hGsA hfr1A V hl
      have hi : 26 = i := by omega
      subst hi
      have h_q1_lA : f1A q1 = some (.inl (E.2.2.1 4, 0, .inr (.inr (.inr (.inr (fun _ => none)))))) := hfr1A.at1 h_q1_f18 ne_q1_q16
      have h_q4_lA : f1A q4 = some (.inr (6, [.int 0, .long 0, .ref (E.2.2.2 1), .ref q1, .ref q1, .int 1, .int 0])) := hfr1A.at1 h_q4_f18 ne_q4_q16
      have h_q8_lA : f1A q8 = some (.inr (6, [.int 1, .long 0, .ref (E.2.2.2 1), .ref q1, .ref q1, .int 1, .int 0])) := hfr1A.at1 h_q8_f18 ne_q8_q16
      have h_q12_lA : f1A q12 = some (.inr (6, [.int 2, .long 0, .ref (E.2.2.2 1), .ref q1, .ref q1, .int 1, .int 0])) := hfr1A.at1 h_q12_f18 ne_q12_q16
      have h_a_lA : f1A a = some (.inr (7, [.ref q4, .ref q8, .ref q12, .ref q1, .ref q16, .null])) := hfr1A.at1 h_a_f18 ne_a_q16
      have hfr : gh_fr f f1A (fun b => b ∈ ([a] : List Nat)) := hfrLA.tr1 hfr1A (Or.inr nz_q16)
      have hfkA : gh_fr f1A f1A (fun b => b ∈ ([a] : List Nat)) := gh_fr.rf
      refine lv_iload_n hx hb d_Vs_init_95 rfl (lv_at hl 0 rfl) ?_
      refine lv_aload_n hx hb d_Vs_init_96 rfl (lv_at hl 1 rfl) ?_
      refine gh_get C V h_a_lA gc_Vs gi_Vs 4 (by decide) f_Vs_34 rfl rfl d_Vs_init_97 ?_
      refine gh_alen (t0 := 4) C V rfl harrA (v := nI 26) rfl d_Vs_init_100 ?_
      refine lv_icmp_ge (tgt := 146) hx hb d_Vs_init_101 (by decide) (fun c19 => ?_) (fun c19 => absurd (nI_le (Nat.le_refl _) (by decide)) c19)
      refine lv_aload_n hx hb d_Vs_init_146 rfl (lv_at hl 1 rfl) ?_
      refine gh_new (fs := [.null, .null, .int 0]) C V gc_Ga gi_Ga ty_Ga k_Vs_37 n_Ga i_Ga (by decide) (by first | decide | omega | (dsimp only; omega)) (by first | decide | omega | (dsimp only; omega)) d_Vs_init_147 (fun q20 H hnq20 V => ?_)
      obtain ⟨f21, hff21⟩ : ∃ z9 : gh_F, z9 = gh_u f1A q20 (.inr (1, [.null, .null, .int 0])) := ⟨_, rfl⟩
      have V : gh_V E A f21 s H locs := by rw [hff21]; exact V
      have nz_q20 : f q20 = none := hfr.non hnq20
      have hfr : gh_fr f f21 (fun b => b ∈ ([a] : List Nat)) := by rw [hff21]; exact hfr.put (Or.inr nz_q20)
      have ne_q1_q20 : q1 ≠ q20 := gh_ne0 h_q1_lA hnq20
      have h_q1_f21 : f21 q1 = some (.inl (E.2.2.1 4, 0, .inr (.inr (.inr (.inr (fun _ => none)))))) := by rw [hff21, gh_un ne_q1_q20]; exact h_q1_lA
      have ne_q4_q20 : q4 ≠ q20 := gh_ne0 h_q4_lA hnq20
      have h_q4_f21 : f21 q4 = some (.inr (6, [.int 0, .long 0, .ref (E.2.2.2 1), .ref q1, .ref q1, .int 1, .int 0])) := by rw [hff21, gh_un ne_q4_q20]; exact h_q4_lA
      have ne_q8_q20 : q8 ≠ q20 := gh_ne0 h_q8_lA hnq20
      have h_q8_f21 : f21 q8 = some (.inr (6, [.int 1, .long 0, .ref (E.2.2.2 1), .ref q1, .ref q1, .int 1, .int 0])) := by rw [hff21, gh_un ne_q8_q20]; exact h_q8_lA
      have ne_q12_q20 : q12 ≠ q20 := gh_ne0 h_q12_lA hnq20
      have h_q12_f21 : f21 q12 = some (.inr (6, [.int 2, .long 0, .ref (E.2.2.2 1), .ref q1, .ref q1, .int 1, .int 0])) := by rw [hff21, gh_un ne_q12_q20]; exact h_q12_lA
      have ne_q16_q20 : q16 ≠ q20 := gh_ne0 harrA hnq20
      have h_q16_f21 : f21 q16 = some (.inl (E.2.2.1 4, 26, .inr (.inr (.inr (.inr gA))))) := by rw [hff21, gh_un ne_q16_q20]; exact harrA
      have ne_a_q20 : a ≠ q20 := gh_ne0 h_a_lA hnq20
      have h_a_f21 : f21 a = some (.inr (7, [.ref q4, .ref q8, .ref q12, .ref q1, .ref q16, .null])) := by rw [hff21, gh_un ne_a_q20]; exact h_a_lA
      have h_q20_f21 : f21 q20 = some (.inr (1, [.null, .null, .int 0])) := by rw [hff21, gh_us]
      have nkA_q20 : f1A q20 = none := hfkA.non hnq20
      have hfkA : gh_fr f1A f21 (fun b => b ∈ ([a] : List Nat)) := by rw [hff21]; exact hfkA.put (Or.inr nkA_q20)
      refine lv_dup hx hb d_Vs_init_150 rfl ?_
      refine gh_callI C V hl.1 m_Ga_init l_Vs_39 (c_Ga_init l E _ f21 q20 h_q20_f21) rfl ⟨by first | decide | omega | (dsimp only; omega), by first | decide | omega | (dsimp only; omega)⟩ ⟨by first | decide | omega | (dsimp only; omega), by first | decide | omega | (dsimp only; omega)⟩ (Nat.le_of_ble_eq_true rfl) rfl d_Vs_init_151 (fun r f24 H locs hp V => ?_)
      obtain ⟨rfl, k22, i23, hnk22, hni23, ne_k22_i23, h_q20_c, h_k22_c, h_i23_c, hfr2⟩ := hp
      refine W.eq (g2 := F0 m 154 ls [.ref q20, .ref a]) rfl ?_
      have h_q1_f24 : f24 q1 = some (.inl (E.2.2.1 4, 0, .inr (.inr (.inr (.inr (fun _ => none)))))) := hfr2.at1 h_q1_f21 ne_q1_q20
      have h_q4_f24 : f24 q4 = some (.inr (6, [.int 0, .long 0, .ref (E.2.2.2 1), .ref q1, .ref q1, .int 1, .int 0])) := hfr2.at1 h_q4_f21 ne_q4_q20
      have h_q8_f24 : f24 q8 = some (.inr (6, [.int 1, .long 0, .ref (E.2.2.2 1), .ref q1, .ref q1, .int 1, .int 0])) := hfr2.at1 h_q8_f21 ne_q8_q20
      have h_q12_f24 : f24 q12 = some (.inr (6, [.int 2, .long 0, .ref (E.2.2.2 1), .ref q1, .ref q1, .int 1, .int 0])) := hfr2.at1 h_q12_f21 ne_q12_q20
      have h_q16_f24 : f24 q16 = some (.inl (E.2.2.1 4, 26, .inr (.inr (.inr (.inr gA))))) := hfr2.at1 h_q16_f21 ne_q16_q20
      have h_a_f24 : f24 a = some (.inr (7, [.ref q4, .ref q8, .ref q12, .ref q1, .ref q16, .null])) := hfr2.at1 h_a_f21 ne_a_q20
      have nz_k22 : f k22 = none := hfr.non hnk22
      have ne_q1_k22 : q1 ≠ k22 := gh_ne0 h_q1_f21 hnk22
      have ne_q4_k22 : q4 ≠ k22 := gh_ne0 h_q4_f21 hnk22
      have ne_q8_k22 : q8 ≠ k22 := gh_ne0 h_q8_f21 hnk22
      have ne_q12_k22 : q12 ≠ k22 := gh_ne0 h_q12_f21 hnk22
      have ne_q16_k22 : q16 ≠ k22 := gh_ne0 h_q16_f21 hnk22
      have ne_a_k22 : a ≠ k22 := gh_ne0 h_a_f21 hnk22
      have ne_q20_k22 : q20 ≠ k22 := gh_ne0 h_q20_f21 hnk22
      have nz_i23 : f i23 = none := hfr.non hni23
      have ne_q1_i23 : q1 ≠ i23 := gh_ne0 h_q1_f21 hni23
      have ne_q4_i23 : q4 ≠ i23 := gh_ne0 h_q4_f21 hni23
      have ne_q8_i23 : q8 ≠ i23 := gh_ne0 h_q8_f21 hni23
      have ne_q12_i23 : q12 ≠ i23 := gh_ne0 h_q12_f21 hni23
      have ne_q16_i23 : q16 ≠ i23 := gh_ne0 h_q16_f21 hni23
      have ne_a_i23 : a ≠ i23 := gh_ne0 h_a_f21 hni23
      have ne_q20_i23 : q20 ≠ i23 := gh_ne0 h_q20_f21 hni23
      have hfr : gh_fr f f24 (fun b => b ∈ ([a] : List Nat)) := hfr.tr1 hfr2 (Or.inr nz_q20)
      have nkA_k22 : f1A k22 = none := hfkA.non hnk22
      have nkA_i23 : f1A i23 = none := hfkA.non hni23
      have hfkA : gh_fr f1A f24 (fun b => b ∈ ([a] : List Nat)) := hfkA.tr1 hfr2 (Or.inr nkA_q20)
      refine gh_putF C V hini h_a_f24 gc_Vs gi_Vs ty_Vs nm_Vs 5 (by decide) f_Vs_40 rfl (by first | rfl | decide) (by first | rfl | decide) (Nat.le_of_ble_eq_true rfl) d_Vs_init_154 (fun H locs V => ?_)
      obtain ⟨f25, hff25⟩ : ∃ z9 : gh_F, z9 = gh_u f24 a (.inr (7, [.ref q4, .ref q8, .ref q12, .ref q1, .ref q16, .ref q20])) := ⟨_, rfl⟩
      have V : gh_V E A f25 s H locs := by rw [hff25]; exact V
      have hfr : gh_fr f f25 (fun b => b ∈ ([a] : List Nat)) := by rw [hff25]; exact hfr.put (Or.inl (by simp))
      have h_q1_f25 : f25 q1 = some (.inl (E.2.2.1 4, 0, .inr (.inr (.inr (.inr (fun _ => none)))))) := by rw [hff25, gh_un (Ne.symm ne_a_q1)]; exact h_q1_f24
      have h_q4_f25 : f25 q4 = some (.inr (6, [.int 0, .long 0, .ref (E.2.2.2 1), .ref q1, .ref q1, .int 1, .int 0])) := by rw [hff25, gh_un (Ne.symm ne_a_q4)]; exact h_q4_f24
      have h_q8_f25 : f25 q8 = some (.inr (6, [.int 1, .long 0, .ref (E.2.2.2 1), .ref q1, .ref q1, .int 1, .int 0])) := by rw [hff25, gh_un (Ne.symm ne_a_q8)]; exact h_q8_f24
      have h_q12_f25 : f25 q12 = some (.inr (6, [.int 2, .long 0, .ref (E.2.2.2 1), .ref q1, .ref q1, .int 1, .int 0])) := by rw [hff25, gh_un (Ne.symm ne_a_q12)]; exact h_q12_f24
      have h_q16_f25 : f25 q16 = some (.inl (E.2.2.1 4, 26, .inr (.inr (.inr (.inr gA))))) := by rw [hff25, gh_un (Ne.symm ne_a_q16)]; exact h_q16_f24
      have h_q20_f25 : f25 q20 = some (.inr (1, [.ref k22, .ref i23, .int 0])) := by rw [hff25, gh_un (Ne.symm ne_a_q20)]; exact h_q20_c
      have h_k22_f25 : f25 k22 = some (gh_A16 E) := by rw [hff25, gh_un (Ne.symm ne_a_k22)]; exact h_k22_c
      have h_i23_f25 : f25 i23 = some (gh_A16 E) := by rw [hff25, gh_un (Ne.symm ne_a_i23)]; exact h_i23_c
      have h_a_f25 : f25 a = some (.inr (7, [.ref q4, .ref q8, .ref q12, .ref q1, .ref q16, .ref q20])) := by rw [hff25, gh_us]
      have hfkA : gh_fr f1A f25 (fun b => b ∈ ([a] : List Nat)) := by rw [hff25]; exact hfkA.put (Or.inl (by simp))
      refine gh_retv hAe C V hr hlocks d_Vs_init_157 (by first | decide | omega | (dsimp only; omega)) (by first | decide | omega | (dsimp only; omega)) ?_
      exact ⟨rfl, q1, q4, q8, q12, q16, q20, k22, i23, gA, XA, KA, ⟨nz_q1, nz_q4, nz_q8, nz_q12, nz_q16, nz_q20, nz_k22, nz_i23⟩, ne_k22_i23, h_a_f25, h_q1_f25, h_q4_f25, h_q8_f25, h_q12_f25, h_q16_f25, (hGsA.keep hfkA (fun b hb => by rw [List.mem_singleton.mp hb, h_a_f18]; exact fun z => by cases z)).from hfrLA, h_q20_f25, h_k22_f25, h_i23_f25, hfr⟩
    | succ n ih =>
      intro i f1A H locs ls gA XA KA hi harrA hGsA hfr1A V hl
      have hiN : i < 26 := by omega
      have h_q1_lA : f1A q1 = some (.inl (E.2.2.1 4, 0, .inr (.inr (.inr (.inr (fun _ => none)))))) := hfr1A.at1 h_q1_f18 ne_q1_q16
      have h_q4_lA : f1A q4 = some (.inr (6, [.int 0, .long 0, .ref (E.2.2.2 1), .ref q1, .ref q1, .int 1, .int 0])) := hfr1A.at1 h_q4_f18 ne_q4_q16
      have h_q8_lA : f1A q8 = some (.inr (6, [.int 1, .long 0, .ref (E.2.2.2 1), .ref q1, .ref q1, .int 1, .int 0])) := hfr1A.at1 h_q8_f18 ne_q8_q16
      have h_q12_lA : f1A q12 = some (.inr (6, [.int 2, .long 0, .ref (E.2.2.2 1), .ref q1, .ref q1, .int 1, .int 0])) := hfr1A.at1 h_q12_f18 ne_q12_q16
      have h_a_lA : f1A a = some (.inr (7, [.ref q4, .ref q8, .ref q12, .ref q1, .ref q16, .null])) := hfr1A.at1 h_a_f18 ne_a_q16
      have hfr : gh_fr f1A f1A (fun b => b ∈ ([q16] : List Nat)) := gh_fr.rf
      refine lv_iload_n hx hb d_Vs_init_95 rfl (lv_at hl 0 rfl) ?_
      refine lv_aload_n hx hb d_Vs_init_96 rfl (lv_at hl 1 rfl) ?_
      refine gh_get C V h_a_lA gc_Vs gi_Vs 4 (by decide) f_Vs_34 rfl rfl d_Vs_init_97 ?_
      refine gh_alen (t0 := 4) C V rfl harrA (v := nI 26) rfl d_Vs_init_100 ?_
      refine lv_icmp_ge (tgt := 146) hx hb d_Vs_init_101 (by decide) (fun c26 => absurd c26 (nI_ge hiN (by decide))) (fun c26 => ?_)
      refine lv_iconst (v := 1) hx hb d_Vs_init_104 (by decide) ?_
      refine gh_newa (atype := .char) (ty := .char) (t0 := 2) (a0 := (1, .inl (fun _ => 0))) (N := 1) C V rfl ac_char rfl (fun _ h => by cases h) (gh_a0i _ .char rfl) (by decide) (by decide) (by decide +kernel) (by first | decide | omega | (dsimp only; omega)) (by first | decide | omega | (dsimp only; omega)) d_Vs_init_105 (fun q27 H hnq27 V => ?_)
      obtain ⟨f28, hff28⟩ : ∃ z9 : gh_F, z9 = gh_u f1A q27 (.inl (E.2.2.1 2, 1, .inl (fun _ => 0))) := ⟨_, rfl⟩
      have V : gh_V E A f28 s H locs := by rw [hff28]; exact V
      have nz_q27 : f1A q27 = none := hfr.non hnq27
      have hfr : gh_fr f1A f28 (fun b => b ∈ ([q16] : List Nat)) := by rw [hff28]; exact hfr.put (Or.inr nz_q27)
      have ne_q1_q27 : q1 ≠ q27 := gh_ne0 h_q1_lA hnq27
      have h_q1_f28 : f28 q1 = some (.inl (E.2.2.1 4, 0, .inr (.inr (.inr (.inr (fun _ => none)))))) := by rw [hff28, gh_un ne_q1_q27]; exact h_q1_lA
      have ne_q4_q27 : q4 ≠ q27 := gh_ne0 h_q4_lA hnq27
      have h_q4_f28 : f28 q4 = some (.inr (6, [.int 0, .long 0, .ref (E.2.2.2 1), .ref q1, .ref q1, .int 1, .int 0])) := by rw [hff28, gh_un ne_q4_q27]; exact h_q4_lA
      have ne_q8_q27 : q8 ≠ q27 := gh_ne0 h_q8_lA hnq27
      have h_q8_f28 : f28 q8 = some (.inr (6, [.int 1, .long 0, .ref (E.2.2.2 1), .ref q1, .ref q1, .int 1, .int 0])) := by rw [hff28, gh_un ne_q8_q27]; exact h_q8_lA
      have ne_q12_q27 : q12 ≠ q27 := gh_ne0 h_q12_lA hnq27
      have h_q12_f28 : f28 q12 = some (.inr (6, [.int 2, .long 0, .ref (E.2.2.2 1), .ref q1, .ref q1, .int 1, .int 0])) := by rw [hff28, gh_un ne_q12_q27]; exact h_q12_lA
      have ne_q16_q27 : q16 ≠ q27 := gh_ne0 harrA hnq27
      have h_q16_f28 : f28 q16 = some (.inl (E.2.2.1 4, 26, .inr (.inr (.inr (.inr gA))))) := by rw [hff28, gh_un ne_q16_q27]; exact harrA
      have ne_a_q27 : a ≠ q27 := gh_ne0 h_a_lA hnq27
      have h_a_f28 : f28 a = some (.inr (7, [.ref q4, .ref q8, .ref q12, .ref q1, .ref q16, .null])) := by rw [hff28, gh_un ne_a_q27]; exact h_a_lA
      have h_q27_f28 : f28 q27 = some (.inl (E.2.2.1 2, 1, .inl (fun _ => 0))) := by rw [hff28, gh_us]
      refine lv_dup hx hb d_Vs_init_107 rfl ?_
      refine lv_iconst (v := 0) hx hb d_Vs_init_108 (by decide) ?_
      refine lv_bipush (v := 97) hx hb d_Vs_init_109 (by decide) ?_
      refine lv_iload_n hx hb d_Vs_init_111 rfl (lv_at hl 0 rfl) ?_
      refine lv_iadd hx hb d_Vs_init_112 ?_
      refine lv_i2c hx hb d_Vs_init_113 rfl ?_
      refine gn_cast (i := 0) C V h_q27_f28 (by decide) (by decide) d_Vs_init_114 (fun H locs V => ?_)
      rw [gh_letter i hiN] at V
      obtain ⟨f29, hff29⟩ : ∃ z9 : gh_F, z9 = gh_u f28 q27 (.inl (E.2.2.1 2, 1, .inl (upd (fun _ => 0) 0 (nI (97 + i))))) := ⟨_, rfl⟩
      have V : gh_V E A f29 s H locs := by rw [hff29]; exact V
      have hfr : gh_fr f1A f29 (fun b => b ∈ ([q16] : List Nat)) := by rw [hff29]; exact hfr.put (Or.inr nz_q27)
      have h_q1_f29 : f29 q1 = some (.inl (E.2.2.1 4, 0, .inr (.inr (.inr (.inr (fun _ => none)))))) := by rw [hff29, gh_un ne_q1_q27]; exact h_q1_f28
      have h_q4_f29 : f29 q4 = some (.inr (6, [.int 0, .long 0, .ref (E.2.2.2 1), .ref q1, .ref q1, .int 1, .int 0])) := by rw [hff29, gh_un ne_q4_q27]; exact h_q4_f28
      have h_q8_f29 : f29 q8 = some (.inr (6, [.int 1, .long 0, .ref (E.2.2.2 1), .ref q1, .ref q1, .int 1, .int 0])) := by rw [hff29, gh_un ne_q8_q27]; exact h_q8_f28
      have h_q12_f29 : f29 q12 = some (.inr (6, [.int 2, .long 0, .ref (E.2.2.2 1), .ref q1, .ref q1, .int 1, .int 0])) := by rw [hff29, gh_un ne_q12_q27]; exact h_q12_f28
      have h_q16_f29 : f29 q16 = some (.inl (E.2.2.1 4, 26, .inr (.inr (.inr (.inr gA))))) := by rw [hff29, gh_un ne_q16_q27]; exact h_q16_f28
      have h_a_f29 : f29 a = some (.inr (7, [.ref q4, .ref q8, .ref q12, .ref q1, .ref q16, .null])) := by rw [hff29, gh_un ne_a_q27]; exact h_a_f28
      have h_q27_f29 : f29 q27 = some (.inl (E.2.2.1 2, 1, .inl (upd (fun _ => 0) 0 (nI (97 + i))))) := by rw [hff29, gh_us]
      refine lv_astore_n hx hb d_Vs_init_115 rfl hl (by decide) rfl (fun ls hl => ?_)
      have hl : lv_has ls 3 [(2, .ref q27), (1, .int (nI i)), (0, .ref a)] := hl
      refine lv_aload_n hx hb d_Vs_init_116 rfl (lv_at hl 2 rfl) ?_
      refine gh_get C V h_a_f29 gc_Vs gi_Vs 4 (by decide) f_Vs_34 rfl rfl d_Vs_init_117 ?_
      refine lv_iload_n hx hb d_Vs_init_120 rfl (lv_at hl 1 rfl) ?_
      refine gh_new (fs := [.int 0, .long 0, .null, .null, .null, .int 0, .int 0]) C V gc_Va gi_Va ty_Va k_Vs_7 n_Va i_Va (by decide) (by first | decide | omega | (dsimp only; omega)) (by first | decide | omega | (dsimp only; omega)) d_Vs_init_121 (fun q30 H hnq30 V => ?_)
      obtain ⟨f31, hff31⟩ : ∃ z9 : gh_F, z9 = gh_u f29 q30 (.inr (6, [.int 0, .long 0, .null, .null, .null, .int 0, .int 0])) := ⟨_, rfl⟩
      have V : gh_V E A f31 s H locs := by rw [hff31]; exact V
      have nz_q30 : f1A q30 = none := hfr.non hnq30
      have hfr : gh_fr f1A f31 (fun b => b ∈ ([q16] : List Nat)) := by rw [hff31]; exact hfr.put (Or.inr nz_q30)
      have ne_q1_q30 : q1 ≠ q30 := gh_ne0 h_q1_f29 hnq30
      have h_q1_f31 : f31 q1 = some (.inl (E.2.2.1 4, 0, .inr (.inr (.inr (.inr (fun _ => none)))))) := by rw [hff31, gh_un ne_q1_q30]; exact h_q1_f29
      have ne_q4_q30 : q4 ≠ q30 := gh_ne0 h_q4_f29 hnq30
      have h_q4_f31 : f31 q4 = some (.inr (6, [.int 0, .long 0, .ref (E.2.2.2 1), .ref q1, .ref q1, .int 1, .int 0])) := by rw [hff31, gh_un ne_q4_q30]; exact h_q4_f29
      have ne_q8_q30 : q8 ≠ q30 := gh_ne0 h_q8_f29 hnq30
      have h_q8_f31 : f31 q8 = some (.inr (6, [.int 1, .long 0, .ref (E.2.2.2 1), .ref q1, .ref q1, .int 1, .int 0])) := by rw [hff31, gh_un ne_q8_q30]; exact h_q8_f29
      have ne_q12_q30 : q12 ≠ q30 := gh_ne0 h_q12_f29 hnq30
      have h_q12_f31 : f31 q12 = some (.inr (6, [.int 2, .long 0, .ref (E.2.2.2 1), .ref q1, .ref q1, .int 1, .int 0])) := by rw [hff31, gh_un ne_q12_q30]; exact h_q12_f29
      have ne_q16_q30 : q16 ≠ q30 := gh_ne0 h_q16_f29 hnq30
      have h_q16_f31 : f31 q16 = some (.inl (E.2.2.1 4, 26, .inr (.inr (.inr (.inr gA))))) := by rw [hff31, gh_un ne_q16_q30]; exact h_q16_f29
      have ne_a_q30 : a ≠ q30 := gh_ne0 h_a_f29 hnq30
      have h_a_f31 : f31 a = some (.inr (7, [.ref q4, .ref q8, .ref q12, .ref q1, .ref q16, .null])) := by rw [hff31, gh_un ne_a_q30]; exact h_a_f29
      have ne_q27_q30 : q27 ≠ q30 := gh_ne0 h_q27_f29 hnq30
      have h_q27_f31 : f31 q27 = some (.inl (E.2.2.1 2, 1, .inl (upd (fun _ => 0) 0 (nI (97 + i))))) := by rw [hff31, gh_un ne_q27_q30]; exact h_q27_f29
      have h_q30_f31 : f31 q30 = some (.inr (6, [.int 0, .long 0, .null, .null, .null, .int 0, .int 0])) := by rw [hff31, gh_us]
      refine lv_dup hx hb d_Vs_init_124 rfl ?_
      refine lv_iconst (v := 4) hx hb d_Vs_init_125 (by decide) ?_
      refine lv_lconst (v := 0) hx hb d_Vs_init_126 (by decide) ?_
      refine lv_aload_n hx hb d_Vs_init_127 rfl (lv_at hl 0 rfl) ?_
      refine lv_aload_n hx hb d_Vs_init_128 rfl (lv_at hl 2 rfl) ?_
      refine gh_get C V h_a_f31 gc_Vs gi_Vs 3 (by decide) f_Vs_9 rfl rfl d_Vs_init_129 ?_
      refine lv_aload_n hx hb d_Vs_init_132 rfl (lv_at hl 2 rfl) ?_
      refine gh_get C V h_a_f31 gc_Vs gi_Vs 3 (by decide) f_Vs_9 rfl rfl d_Vs_init_133 ?_
      refine gh_callI C V hl.1 m_Va_init l_Vs_19 (c_Va_init l E _ f31 q30 4 0 q27 q1 q1 0 (fun _ => none) (fun _ => 0) (fun _ => 0) (fun _ => 0) h_q30_f31 h_q1_f31 (by decide) (fun j hj => absurd hj (Nat.not_lt_zero j))) rfl ⟨by first | decide | omega | (dsimp only; omega), by first | decide | omega | (dsimp only; omega)⟩ ⟨by first | decide | omega | (dsimp only; omega), by first | decide | omega | (dsimp only; omega)⟩ (Nat.le_of_ble_eq_true rfl) rfl d_Vs_init_136 (fun r f32 H locs hp V => ?_)
      obtain ⟨rfl, h_q30_c, hfr2⟩ := hp
      refine W.eq (g2 := F0 m 139 ls [.ref q30, .int (nI i), .ref q16]) rfl ?_
      have h_q1_f32 : f32 q1 = some (.inl (E.2.2.1 4, 0, .inr (.inr (.inr (.inr (fun _ => none)))))) := hfr2.at1 h_q1_f31 ne_q1_q30
      have h_q4_f32 : f32 q4 = some (.inr (6, [.int 0, .long 0, .ref (E.2.2.2 1), .ref q1, .ref q1, .int 1, .int 0])) := hfr2.at1 h_q4_f31 ne_q4_q30
      have h_q8_f32 : f32 q8 = some (.inr (6, [.int 1, .long 0, .ref (E.2.2.2 1), .ref q1, .ref q1, .int 1, .int 0])) := hfr2.at1 h_q8_f31 ne_q8_q30
      have h_q12_f32 : f32 q12 = some (.inr (6, [.int 2, .long 0, .ref (E.2.2.2 1), .ref q1, .ref q1, .int 1, .int 0])) := hfr2.at1 h_q12_f31 ne_q12_q30
      have h_q16_f32 : f32 q16 = some (.inl (E.2.2.1 4, 26, .inr (.inr (.inr (.inr gA))))) := hfr2.at1 h_q16_f31 ne_q16_q30
      have h_a_f32 : f32 a = some (.inr (7, [.ref q4, .ref q8, .ref q12, .ref q1, .ref q16, .null])) := hfr2.at1 h_a_f31 ne_a_q30
      have h_q27_f32 : f32 q27 = some (.inl (E.2.2.1 2, 1, .inl (upd (fun _ => 0) 0 (nI (97 + i))))) := hfr2.at1 h_q27_f31 ne_q27_q30
      have hfr : gh_fr f1A f32 (fun b => b ∈ ([q16] : List Nat)) := hfr.tr1 hfr2 (Or.inr nz_q30)
      have h_q30_c : f32 q30 = some (.inr (6, [.int 4, .long 0, .ref q27, .ref q1, .ref q1, .int 1, .int 0])) := h_q30_c
      refine gn_aast (t0 := 4) (r := (R_Va, T_Va, 7)) C V rfl h_q16_f32 h_q30_c gc_Va hiN (by decide) d_Vs_init_139 (fun H locs V => ?_)
      obtain ⟨f33, hff33⟩ : ∃ z9 : gh_F, z9 = gh_u f32 q16 (.inl (E.2.2.1 4, 26, .inr (.inr (.inr (.inr (va_up gA i (some q30))))))) := ⟨_, rfl⟩
      have V : gh_V E A f33 s H locs := by rw [hff33]; exact V
      have hfr : gh_fr f1A f33 (fun b => b ∈ ([q16] : List Nat)) := by rw [hff33]; exact hfr.put (Or.inl (by simp))
      have h_q1_f33 : f33 q1 = some (.inl (E.2.2.1 4, 0, .inr (.inr (.inr (.inr (fun _ => none)))))) := by rw [hff33, gh_un ne_q1_q16]; exact h_q1_f32
      have h_q4_f33 : f33 q4 = some (.inr (6, [.int 0, .long 0, .ref (E.2.2.2 1), .ref q1, .ref q1, .int 1, .int 0])) := by rw [hff33, gh_un ne_q4_q16]; exact h_q4_f32
      have h_q8_f33 : f33 q8 = some (.inr (6, [.int 1, .long 0, .ref (E.2.2.2 1), .ref q1, .ref q1, .int 1, .int 0])) := by rw [hff33, gh_un ne_q8_q16]; exact h_q8_f32
      have h_q12_f33 : f33 q12 = some (.inr (6, [.int 2, .long 0, .ref (E.2.2.2 1), .ref q1, .ref q1, .int 1, .int 0])) := by rw [hff33, gh_un ne_q12_q16]; exact h_q12_f32
      have h_a_f33 : f33 a = some (.inr (7, [.ref q4, .ref q8, .ref q12, .ref q1, .ref q16, .null])) := by rw [hff33, gh_un ne_a_q16]; exact h_a_f32
      have h_q27_f33 : f33 q27 = some (.inl (E.2.2.1 2, 1, .inl (upd (fun _ => 0) 0 (nI (97 + i))))) := by rw [hff33, gh_un (Ne.symm ne_q16_q27)]; exact h_q27_f32
      have h_q30_f33 : f33 q30 = some (.inr (6, [.int 4, .long 0, .ref q27, .ref q1, .ref q1, .int 1, .int 0])) := by rw [hff33, gh_un (Ne.symm ne_q16_q30)]; exact h_q30_c
      have h_q16_f33 : f33 q16 = some (.inl (E.2.2.1 4, 26, .inr (.inr (.inr (.inr (va_up gA i (some q30))))))) := by rw [hff33, gh_us]
      refine lv_iinc (k := 1) (v := (nI i) + 1) hx hb d_Vs_init_140 hl rfl (by rfl) (by decide) rfl (fun ls hl => ?_)
      have hl : lv_has ls 3 [(1, .int ((nI i) + 1)), (2, .ref q27), (0, .ref a)] := hl
      refine lv_goto (tgt := 95) hx hb d_Vs_init_143 (by decide) ?_
      have hl : lv_has ls 3 [(1, .int ((nI i) + 1)), (0, .ref a)] := lv_sub hl [0, 2] rfl
      have hl : lv_has ls 3 [(1, .int (nI (i + 1))), (0, .ref a)] := by rw [nI_succ]; exact hl
      have hM : ∀ b, b ∈ ([q16] : List Nat) → f18 b ≠ none := fun b hb => by rw [List.mem_singleton.mp hb, h_q16_f18]; exact fun z => by cases z
      have hG2 := hGsA.step hfr hM (fun b hb => hfr1A.non hb) nz_q30 nz_q27 h_q30_f33 h_q27_f33
      exact W.widen (by first | omega | (dsimp only; omega)) (by first | omega | (dsimp only; omega)) (ih (i + 1) _ H locs ls _ _ _ (by omega) h_q16_f33 hG2 (hfr1A.tr hfr (fun _ _ _ z => z)) V hl)
  exact W.widen (by first | decide | omega | (dsimp only; omega)) (by first | decide | omega | (dsimp only; omega)) (loopA 26 0 _ H locs ls _ (fun _ => 0) (fun _ => 0) (by omega) h_q16_f18 gh_Ls.zero gh_fr.rf V hl)
