/-! Constructors with loops: Reader, Runner. Printed by wip/whole/gen_init2.py. -/
theorem d_Re_init_0 : decode b_Re_init 0 = .ok (.aload_n 0, 1) := by decide +kernel
theorem d_Re_init_1 : decode b_Re_init 1 = .ok (.invokespecial 1, 3) := by decide +kernel
theorem d_Re_init_4 : decode b_Re_init 4 = .ok (.aload_n 0, 1) := by decide +kernel
theorem d_Re_init_5 : decode b_Re_init 5 = .ok (.aload_n 1, 1) := by decide +kernel
theorem d_Re_init_6 : decode b_Re_init 6 = .ok (.putfield 7, 3) := by decide +kernel
theorem d_Re_init_9 : decode b_Re_init 9 = .ok (.aload_n 0, 1) := by decide +kernel
theorem d_Re_init_10 : decode b_Re_init 10 = .ok (.bipush 8, 2) := by decide +kernel
theorem d_Re_init_12 : decode b_Re_init 12 = .ok (.anewarray 15, 3) := by decide +kernel
theorem d_Re_init_15 : decode b_Re_init 15 = .ok (.putfield 17, 3) := by decide +kernel
theorem d_Re_init_18 : decode b_Re_init 18 = .ok (.iconst 0, 1) := by decide +kernel
theorem d_Re_init_19 : decode b_Re_init 19 = .ok (.istore_n 2, 1) := by decide +kernel
theorem d_Re_init_20 : decode b_Re_init 20 = .ok (.iload_n 2, 1) := by decide +kernel
theorem d_Re_init_21 : decode b_Re_init 21 = .ok (.aload_n 0, 1) := by decide +kernel
theorem d_Re_init_22 : decode b_Re_init 22 = .ok (.getfield 17, 3) := by decide +kernel
theorem d_Re_init_25 : decode b_Re_init 25 = .ok (.arraylength, 1) := by decide +kernel
theorem d_Re_init_26 : decode b_Re_init 26 = .ok (.if_icmp .ge 22, 3) := by decide +kernel
theorem d_Re_init_29 : decode b_Re_init 29 = .ok (.aload_n 0, 1) := by decide +kernel
theorem d_Re_init_30 : decode b_Re_init 30 = .ok (.getfield 17, 3) := by decide +kernel
theorem d_Re_init_33 : decode b_Re_init 33 = .ok (.iload_n 2, 1) := by decide +kernel
theorem d_Re_init_34 : decode b_Re_init 34 = .ok (.new 15, 3) := by decide +kernel
theorem d_Re_init_37 : decode b_Re_init 37 = .ok (.dup, 1) := by decide +kernel
theorem d_Re_init_38 : decode b_Re_init 38 = .ok (.invokespecial 21, 3) := by decide +kernel
theorem d_Re_init_41 : decode b_Re_init 41 = .ok (.aastore, 1) := by decide +kernel
theorem d_Re_init_42 : decode b_Re_init 42 = .ok (.iinc 2 1, 3) := by decide +kernel
theorem d_Re_init_45 : decode b_Re_init 45 = .ok (.goto (-25), 3) := by decide +kernel
theorem d_Re_init_48 : decode b_Re_init 48 = .ok (.aload_n 0, 1) := by decide +kernel
theorem d_Re_init_49 : decode b_Re_init 49 = .ok (.bipush 24, 2) := by decide +kernel
theorem d_Re_init_51 : decode b_Re_init 51 = .ok (.newarray .char, 2) := by decide +kernel
theorem d_Re_init_53 : decode b_Re_init 53 = .ok (.putfield 22, 3) := by decide +kernel
theorem d_Re_init_56 : decode b_Re_init 56 = .ok (.aload_n 0, 1) := by decide +kernel
theorem d_Re_init_57 : decode b_Re_init 57 = .ok (.iconst (-1), 1) := by decide +kernel
theorem d_Re_init_58 : decode b_Re_init 58 = .ok (.putfield 26, 3) := by decide +kernel
theorem d_Re_init_61 : decode b_Re_init 61 = .ok (.return_, 1) := by decide +kernel
set_option maxHeartbeats 4000000 in
set_option maxRecDepth 100000 in
theorem c_Re_init (l : Launch) (E : gh_E) (sz : Nat) (f : gh_F) (a vs : Nat) (ha : f a = some (.inr (3, [.null, .null, .null, .null, .int 0, .int 0, .int 0]))) : gh_M l y_Re_init b_Re_init 3 none E sz [.ref a, .ref vs] f { frames := 3, cells := 26, slots := 312, locals := 60 } (fun r g1 => r = none ∧ ∃ (ga lt : Nat) (g : Nat → Option Nat) (X K I : Nat → Nat), f ga = none ∧ f lt = none ∧ ga ≠ lt ∧ g1 a = some (.inr (3, [.ref vs, .ref ga, .ref lt, .null, .int 0, .int 0, .int (-1)])) ∧ g1 ga = some (.inl (E.2.2.1 5, 8, .inr (.inr (.inr (.inr g))))) ∧ g1 lt = some (.inl (E.2.2.1 2, 24, .inl (fun _ => 0))) ∧ gh_Gs E f g1 g 8 X K I ∧ gh_fr f g1 (fun b => b ∈ ([a] : List Nat))) := by
  refine gh_open (by decide) (Nat.le_of_ble_eq_true rfl) ?_
  intro p e s m args below meth c A ls hAe C V hr hlocks hname hl
  have hx := C.1
  have hb := C.2.1
  have hini : meth.name = "<init>" := hname
  have hl : lv_has ls 3 [(0, .ref a), (1, .ref vs)] := hl
  have hfr : gh_fr f f (fun b => b ∈ ([a] : List Nat)) := gh_fr.rf
  refine lv_aload_n hx hb d_Re_init_0 rfl (lv_at hl 0 rfl) ?_
  refine gh_obj C hl.1 o_Re_1 (by decide) (by decide) d_Re_init_1 ?_
  refine lv_aload_n hx hb d_Re_init_4 rfl (lv_at hl 0 rfl) ?_
  refine lv_aload_n hx hb d_Re_init_5 rfl (lv_at hl 1 rfl) ?_
  refine gh_putF C V hini ha gc_Re gi_Re ty_Re nm_Re 0 (by decide) f_Re_7 rfl (by first | rfl | decide) (by first | rfl | decide) (Nat.le_of_ble_eq_true rfl) d_Re_init_6 (fun H locs V => ?_)
  obtain ⟨f1, hff1⟩ : ∃ z9 : gh_F, z9 = gh_u f a (.inr (3, [.ref vs, .null, .null, .null, .int 0, .int 0, .int 0])) := ⟨_, rfl⟩
  have V : gh_V E A f1 s H locs := by rw [hff1]; exact V
  have hfr : gh_fr f f1 (fun b => b ∈ ([a] : List Nat)) := by rw [hff1]; exact hfr.put (Or.inl (by simp))
  have h_a_f1 : f1 a = some (.inr (3, [.ref vs, .null, .null, .null, .int 0, .int 0, .int 0])) := by rw [hff1, gh_us]
  refine lv_aload_n hx hb d_Re_init_9 rfl (lv_at hl 0 rfl) ?_
  refine lv_bipush (v := 8) hx hb d_Re_init_10 (by decide) ?_
  refine gh_newq (t0 := 5) (N := 8) C V k_Re_15 C.2.2.2.2.2.2.2.1.2.2.2.2.2.2.2.1 rfl (by decide) (by decide) (by decide) (by first | decide | omega | (dsimp only; omega)) (by first | decide | omega | (dsimp only; omega)) d_Re_init_12 (fun q2 H hnq2 V => ?_)
  obtain ⟨f3, hff3⟩ : ∃ z9 : gh_F, z9 = gh_u f1 q2 (.inl (E.2.2.1 5, 8, .inr (.inr (.inr (.inr (fun _ => none)))))) := ⟨_, rfl⟩
  have V : gh_V E A f3 s H locs := by rw [hff3]; exact V
  have nz_q2 : f q2 = none := hfr.non hnq2
  have hfr : gh_fr f f3 (fun b => b ∈ ([a] : List Nat)) := by rw [hff3]; exact hfr.put (Or.inr nz_q2)
  have ne_a_q2 : a ≠ q2 := gh_ne0 h_a_f1 hnq2
  have h_a_f3 : f3 a = some (.inr (3, [.ref vs, .null, .null, .null, .int 0, .int 0, .int 0])) := by rw [hff3, gh_un ne_a_q2]; exact h_a_f1
  have h_q2_f3 : f3 q2 = some (.inl (E.2.2.1 5, 8, .inr (.inr (.inr (.inr (fun _ => none)))))) := by rw [hff3, gh_us]
  refine gh_putF C V hini h_a_f3 gc_Re gi_Re ty_Re nm_Re 1 (by decide) f_Re_17 rfl (by first | rfl | decide) (by first | rfl | decide) (Nat.le_of_ble_eq_true rfl) d_Re_init_15 (fun H locs V => ?_)
  obtain ⟨f4, hff4⟩ : ∃ z9 : gh_F, z9 = gh_u f3 a (.inr (3, [.ref vs, .ref q2, .null, .null, .int 0, .int 0, .int 0])) := ⟨_, rfl⟩
  have V : gh_V E A f4 s H locs := by rw [hff4]; exact V
  have hfr : gh_fr f f4 (fun b => b ∈ ([a] : List Nat)) := by rw [hff4]; exact hfr.put (Or.inl (by simp))
  have h_q2_f4 : f4 q2 = some (.inl (E.2.2.1 5, 8, .inr (.inr (.inr (.inr (fun _ => none)))))) := by rw [hff4, gh_un (Ne.symm ne_a_q2)]; exact h_q2_f3
  have h_a_f4 : f4 a = some (.inr (3, [.ref vs, .ref q2, .null, .null, .int 0, .int 0, .int 0])) := by rw [hff4, gh_us]
  refine lv_iconst (v := 0) hx hb d_Re_init_18 (by decide) ?_
  refine lv_istore_n hx hb d_Re_init_19 rfl hl (by decide) rfl (fun ls hl => ?_)
  have hl : lv_has ls 3 [(2, .int 0), (0, .ref a), (1, .ref vs)] := hl
  have hl : lv_has ls 3 [(2, .int 0), (0, .ref a), (1, .ref vs)] := lv_sub hl [0, 1, 2] rfl
  have hfrLA := hfr
  have hl : lv_has ls 3 [(2, .int (nI 0)), (0, .ref a), (1, .ref vs)] := hl
  have loopA : ∀ (n i : Nat) (f1A : gh_F) (H : Heap) (locs : List Loc) (ls : Array Slot) (gA : Nat → Option Nat) (XA KA IA : Nat → Nat), i + n = 8 → f1A q2 = some (.inl (E.2.2.1 5, 8, .inr (.inr (.inr (.inr gA))))) → gh_Gs E f4 f1A gA i XA KA IA → gh_fr f4 f1A (fun b => b ∈ ([q2] : List Nat)) → gh_V E A f1A s H locs → lv_has ls 3 [(2, .int (nI i)), (0, .ref a), (1, .ref vs)] → W p l e { frames := 3, cells := 26, slots := 312, locals := 60 } s m args below meth c H locs (1 + 3 * i) (8 + 35 * i) (MQ below (gh_Q E f (fun r g1 => r = none ∧ ∃ (ga lt : Nat) (g : Nat → Option Nat) (X K I : Nat → Nat), f ga = none ∧ f lt = none ∧ ga ≠ lt ∧ g1 a = some (.inr (3, [.ref vs, .ref ga, .ref lt, .null, .int 0, .int 0, .int (-1)])) ∧ g1 ga = some (.inl (E.2.2.1 5, 8, .inr (.inr (.inr (.inr g))))) ∧ g1 lt = some (.inl (E.2.2.1 2, 24, .inl (fun _ => 0))) ∧ gh_Gs E f g1 g 8 X K I ∧ gh_fr f g1 (fun b => b ∈ ([a] : List Nat)))) args s 26 312 A) (F0 m 20 ls []) := by
    intro n
    induction n with
    | zero =>
      intro i f1A H locs ls gA XA KA IA hi harrA hGsA hfr1A V hl
      have hi : 8 = i := by omega
      subst hi
      have h_a_lA : f1A a = some (.inr (3, [.ref vs, .ref q2, .null, .null, .int 0, .int 0, .int 0])) := hfr1A.at1 h_a_f4 ne_a_q2
      have hfr : gh_fr f f1A (fun b => b ∈ ([a] : List Nat)) := hfrLA.tr1 hfr1A (Or.inr nz_q2)
      have hfkA : gh_fr f1A f1A (fun b => b ∈ ([a] : List Nat)) := gh_fr.rf
      refine lv_iload_n hx hb d_Re_init_20 rfl (lv_at hl 0 rfl) ?_
      refine lv_aload_n hx hb d_Re_init_21 rfl (lv_at hl 1 rfl) ?_
      refine gh_get C V h_a_lA gc_Re gi_Re 1 (by decide) f_Re_17 rfl rfl d_Re_init_22 ?_
      refine gh_alen (t0 := 5) C V rfl harrA (v := nI 8) rfl d_Re_init_25 ?_
      refine lv_icmp_ge (tgt := 48) hx hb d_Re_init_26 (by decide) (fun c5 => ?_) (fun c5 => absurd (nI_le (Nat.le_refl _) (by decide)) c5)
      refine lv_aload_n hx hb d_Re_init_48 rfl (lv_at hl 1 rfl) ?_
      refine lv_bipush (v := 24) hx hb d_Re_init_49 (by decide) ?_
      refine gh_newa (atype := .char) (ty := .char) (t0 := 2) (a0 := (24, .inl (fun _ => 0))) (N := 24) C V rfl ac_char rfl (fun _ h => by cases h) (gh_a0i _ .char rfl) (by decide) (by decide) (by decide +kernel) (by first | decide | omega | (dsimp only; omega)) (by first | decide | omega | (dsimp only; omega)) d_Re_init_51 (fun q6 H hnq6 V => ?_)
      obtain ⟨f7, hff7⟩ : ∃ z9 : gh_F, z9 = gh_u f1A q6 (.inl (E.2.2.1 2, 24, .inl (fun _ => 0))) := ⟨_, rfl⟩
      have V : gh_V E A f7 s H locs := by rw [hff7]; exact V
      have nz_q6 : f q6 = none := hfr.non hnq6
      have hfr : gh_fr f f7 (fun b => b ∈ ([a] : List Nat)) := by rw [hff7]; exact hfr.put (Or.inr nz_q6)
      have ne_q2_q6 : q2 ≠ q6 := gh_ne0 harrA hnq6
      have h_q2_f7 : f7 q2 = some (.inl (E.2.2.1 5, 8, .inr (.inr (.inr (.inr gA))))) := by rw [hff7, gh_un ne_q2_q6]; exact harrA
      have ne_a_q6 : a ≠ q6 := gh_ne0 h_a_lA hnq6
      have h_a_f7 : f7 a = some (.inr (3, [.ref vs, .ref q2, .null, .null, .int 0, .int 0, .int 0])) := by rw [hff7, gh_un ne_a_q6]; exact h_a_lA
      have h_q6_f7 : f7 q6 = some (.inl (E.2.2.1 2, 24, .inl (fun _ => 0))) := by rw [hff7, gh_us]
      have nkA_q6 : f1A q6 = none := hfkA.non hnq6
      have hfkA : gh_fr f1A f7 (fun b => b ∈ ([a] : List Nat)) := by rw [hff7]; exact hfkA.put (Or.inr nkA_q6)
      refine gh_putF C V hini h_a_f7 gc_Re gi_Re ty_Re nm_Re 2 (by decide) f_Re_22 rfl (by first | rfl | decide) (by first | rfl | decide) (Nat.le_of_ble_eq_true rfl) d_Re_init_53 (fun H locs V => ?_)
      obtain ⟨f8, hff8⟩ : ∃ z9 : gh_F, z9 = gh_u f7 a (.inr (3, [.ref vs, .ref q2, .ref q6, .null, .int 0, .int 0, .int 0])) := ⟨_, rfl⟩
      have V : gh_V E A f8 s H locs := by rw [hff8]; exact V
      have hfr : gh_fr f f8 (fun b => b ∈ ([a] : List Nat)) := by rw [hff8]; exact hfr.put (Or.inl (by simp))
      have h_q2_f8 : f8 q2 = some (.inl (E.2.2.1 5, 8, .inr (.inr (.inr (.inr gA))))) := by rw [hff8, gh_un (Ne.symm ne_a_q2)]; exact h_q2_f7
      have h_q6_f8 : f8 q6 = some (.inl (E.2.2.1 2, 24, .inl (fun _ => 0))) := by rw [hff8, gh_un (Ne.symm ne_a_q6)]; exact h_q6_f7
      have h_a_f8 : f8 a = some (.inr (3, [.ref vs, .ref q2, .ref q6, .null, .int 0, .int 0, .int 0])) := by rw [hff8, gh_us]
      have hfkA : gh_fr f1A f8 (fun b => b ∈ ([a] : List Nat)) := by rw [hff8]; exact hfkA.put (Or.inl (by simp))
      refine lv_aload_n hx hb d_Re_init_56 rfl (lv_at hl 1 rfl) ?_
      refine lv_iconst (v := (-1)) hx hb d_Re_init_57 (by decide) ?_
      refine gh_put C V h_a_f8 gc_Re gi_Re ty_Re nm_Re 6 (by decide) f_Re_26 rfl (by first | rfl | decide) (by first | rfl | decide) (Nat.le_of_ble_eq_true rfl) d_Re_init_58 (fun H locs V => ?_)
      obtain ⟨f9, hff9⟩ : ∃ z9 : gh_F, z9 = gh_u f8 a (.inr (3, [.ref vs, .ref q2, .ref q6, .null, .int 0, .int 0, .int ((-1))])) := ⟨_, rfl⟩
      have V : gh_V E A f9 s H locs := by rw [hff9]; exact V
      have hfr : gh_fr f f9 (fun b => b ∈ ([a] : List Nat)) := by rw [hff9]; exact hfr.put (Or.inl (by simp))
      have h_q2_f9 : f9 q2 = some (.inl (E.2.2.1 5, 8, .inr (.inr (.inr (.inr gA))))) := by rw [hff9, gh_un (Ne.symm ne_a_q2)]; exact h_q2_f8
      have h_q6_f9 : f9 q6 = some (.inl (E.2.2.1 2, 24, .inl (fun _ => 0))) := by rw [hff9, gh_un (Ne.symm ne_a_q6)]; exact h_q6_f8
      have h_a_f9 : f9 a = some (.inr (3, [.ref vs, .ref q2, .ref q6, .null, .int 0, .int 0, .int ((-1))])) := by rw [hff9, gh_us]
      have hfkA : gh_fr f1A f9 (fun b => b ∈ ([a] : List Nat)) := by rw [hff9]; exact hfkA.put (Or.inl (by simp))
      refine gh_retv hAe C V hr hlocks d_Re_init_61 (by first | decide | omega | (dsimp only; omega)) (by first | decide | omega | (dsimp only; omega)) ?_
      exact ⟨rfl, q2, q6, gA, XA, KA, IA, nz_q2, nz_q6, ne_q2_q6, h_a_f9, h_q2_f9, h_q6_f9, (hGsA.keep hfkA (fun b hb => by rw [List.mem_singleton.mp hb, h_a_f4]; exact fun z => by cases z)).from hfrLA, hfr⟩
    | succ n ih =>
      intro i f1A H locs ls gA XA KA IA hi harrA hGsA hfr1A V hl
      have hiN : i < 8 := by omega
      have h_a_lA : f1A a = some (.inr (3, [.ref vs, .ref q2, .null, .null, .int 0, .int 0, .int 0])) := hfr1A.at1 h_a_f4 ne_a_q2
      have hfr : gh_fr f1A f1A (fun b => b ∈ ([q2] : List Nat)) := gh_fr.rf
      refine lv_iload_n hx hb d_Re_init_20 rfl (lv_at hl 0 rfl) ?_
      refine lv_aload_n hx hb d_Re_init_21 rfl (lv_at hl 1 rfl) ?_
      refine gh_get C V h_a_lA gc_Re gi_Re 1 (by decide) f_Re_17 rfl rfl d_Re_init_22 ?_
      refine gh_alen (t0 := 5) C V rfl harrA (v := nI 8) rfl d_Re_init_25 ?_
      refine lv_icmp_ge (tgt := 48) hx hb d_Re_init_26 (by decide) (fun c10 => absurd c10 (nI_ge hiN (by decide))) (fun c10 => ?_)
      refine lv_aload_n hx hb d_Re_init_29 rfl (lv_at hl 1 rfl) ?_
      refine gh_get C V h_a_lA gc_Re gi_Re 1 (by decide) f_Re_17 rfl rfl d_Re_init_30 ?_
      refine lv_iload_n hx hb d_Re_init_33 rfl (lv_at hl 0 rfl) ?_
      refine gh_new (fs := [.null, .null, .int 0]) C V gc_Ga gi_Ga ty_Ga k_Re_15 n_Ga i_Ga (by decide) (by first | decide | omega | (dsimp only; omega)) (by first | decide | omega | (dsimp only; omega)) d_Re_init_34 (fun q11 H hnq11 V => ?_)
      obtain ⟨f12, hff12⟩ : ∃ z9 : gh_F, z9 = gh_u f1A q11 (.inr (1, [.null, .null, .int 0])) := ⟨_, rfl⟩
      have V : gh_V E A f12 s H locs := by rw [hff12]; exact V
      have nz_q11 : f1A q11 = none := hfr.non hnq11
      have hfr : gh_fr f1A f12 (fun b => b ∈ ([q2] : List Nat)) := by rw [hff12]; exact hfr.put (Or.inr nz_q11)
      have ne_q2_q11 : q2 ≠ q11 := gh_ne0 harrA hnq11
      have h_q2_f12 : f12 q2 = some (.inl (E.2.2.1 5, 8, .inr (.inr (.inr (.inr gA))))) := by rw [hff12, gh_un ne_q2_q11]; exact harrA
      have ne_a_q11 : a ≠ q11 := gh_ne0 h_a_lA hnq11
      have h_a_f12 : f12 a = some (.inr (3, [.ref vs, .ref q2, .null, .null, .int 0, .int 0, .int 0])) := by rw [hff12, gh_un ne_a_q11]; exact h_a_lA
      have h_q11_f12 : f12 q11 = some (.inr (1, [.null, .null, .int 0])) := by rw [hff12, gh_us]
      refine lv_dup hx hb d_Re_init_37 rfl ?_
      refine gh_callI C V hl.1 m_Ga_init l_Re_21 (c_Ga_init l E _ f12 q11 h_q11_f12) rfl ⟨by first | decide | omega | (dsimp only; omega), by first | decide | omega | (dsimp only; omega)⟩ ⟨by first | decide | omega | (dsimp only; omega), by first | decide | omega | (dsimp only; omega)⟩ (Nat.le_of_ble_eq_true rfl) rfl d_Re_init_38 (fun r f15 H locs hp V => ?_)
      obtain ⟨rfl, k13, i14, hnk13, hni14, ne_k13_i14, h_q11_c, h_k13_c, h_i14_c, hfr2⟩ := hp
      refine W.eq (g2 := F0 m 41 ls [.ref q11, .int (nI i), .ref q2]) rfl ?_
      have h_q2_f15 : f15 q2 = some (.inl (E.2.2.1 5, 8, .inr (.inr (.inr (.inr gA))))) := hfr2.at1 h_q2_f12 ne_q2_q11
      have h_a_f15 : f15 a = some (.inr (3, [.ref vs, .ref q2, .null, .null, .int 0, .int 0, .int 0])) := hfr2.at1 h_a_f12 ne_a_q11
      have nz_k13 : f1A k13 = none := hfr.non hnk13
      have ne_q2_k13 : q2 ≠ k13 := gh_ne0 h_q2_f12 hnk13
      have ne_a_k13 : a ≠ k13 := gh_ne0 h_a_f12 hnk13
      have ne_q11_k13 : q11 ≠ k13 := gh_ne0 h_q11_f12 hnk13
      have nz_i14 : f1A i14 = none := hfr.non hni14
      have ne_q2_i14 : q2 ≠ i14 := gh_ne0 h_q2_f12 hni14
      have ne_a_i14 : a ≠ i14 := gh_ne0 h_a_f12 hni14
      have ne_q11_i14 : q11 ≠ i14 := gh_ne0 h_q11_f12 hni14
      have hfr : gh_fr f1A f15 (fun b => b ∈ ([q2] : List Nat)) := hfr.tr1 hfr2 (Or.inr nz_q11)
      refine gn_aast (t0 := 5) (r := (R_Ga, T_Ga, 3)) C V rfl h_q2_f15 h_q11_c gc_Ga hiN (by decide) d_Re_init_41 (fun H locs V => ?_)
      obtain ⟨f16, hff16⟩ : ∃ z9 : gh_F, z9 = gh_u f15 q2 (.inl (E.2.2.1 5, 8, .inr (.inr (.inr (.inr (va_up gA i (some q11))))))) := ⟨_, rfl⟩
      have V : gh_V E A f16 s H locs := by rw [hff16]; exact V
      have hfr : gh_fr f1A f16 (fun b => b ∈ ([q2] : List Nat)) := by rw [hff16]; exact hfr.put (Or.inl (by simp))
      have h_a_f16 : f16 a = some (.inr (3, [.ref vs, .ref q2, .null, .null, .int 0, .int 0, .int 0])) := by rw [hff16, gh_un ne_a_q2]; exact h_a_f15
      have h_q11_f16 : f16 q11 = some (.inr (1, [.ref k13, .ref i14, .int 0])) := by rw [hff16, gh_un (Ne.symm ne_q2_q11)]; exact h_q11_c
      have h_k13_f16 : f16 k13 = some (gh_A16 E) := by rw [hff16, gh_un (Ne.symm ne_q2_k13)]; exact h_k13_c
      have h_i14_f16 : f16 i14 = some (gh_A16 E) := by rw [hff16, gh_un (Ne.symm ne_q2_i14)]; exact h_i14_c
      have h_q2_f16 : f16 q2 = some (.inl (E.2.2.1 5, 8, .inr (.inr (.inr (.inr (va_up gA i (some q11))))))) := by rw [hff16, gh_us]
      refine lv_iinc (k := 0) (v := (nI i) + 1) hx hb d_Re_init_42 hl rfl (by rfl) (by decide) rfl (fun ls hl => ?_)
      have hl : lv_has ls 3 [(2, .int ((nI i) + 1)), (0, .ref a), (1, .ref vs)] := hl
      refine lv_goto (tgt := 20) hx hb d_Re_init_45 (by decide) ?_
      have hl : lv_has ls 3 [(2, .int ((nI i) + 1)), (0, .ref a), (1, .ref vs)] := lv_sub hl [0, 1, 2] rfl
      have hl : lv_has ls 3 [(2, .int (nI (i + 1))), (0, .ref a), (1, .ref vs)] := by rw [nI_succ]; exact hl
      have hM : ∀ b, b ∈ ([q2] : List Nat) → f4 b ≠ none := fun b hb => by rw [List.mem_singleton.mp hb, h_q2_f4]; exact fun z => by cases z
      have hG2 := hGsA.step hfr hM (fun b hb => hfr1A.non hb) nz_q11 nz_k13 nz_i14 ne_k13_i14 h_q11_f16 h_k13_f16 h_i14_f16
      exact W.widen (by first | omega | (dsimp only; omega)) (by first | omega | (dsimp only; omega)) (ih (i + 1) _ H locs ls _ _ _ _ (by omega) h_q2_f16 hG2 (hfr1A.tr hfr (fun _ _ _ z => z)) V hl)
  exact W.widen (by first | decide | omega | (dsimp only; omega)) (by first | decide | omega | (dsimp only; omega)) (loopA 8 0 _ H locs ls _ (fun _ => 0) (fun _ => 0) (fun _ => 0) (by omega) h_q2_f4 gh_Gs.zero gh_fr.rf V hl)
theorem d_Ru_init_0 : decode b_Ru_init 0 = .ok (.aload_n 0, 1) := by decide +kernel
theorem d_Ru_init_1 : decode b_Ru_init 1 = .ok (.invokespecial 7, 3) := by decide +kernel
theorem d_Ru_init_4 : decode b_Ru_init 4 = .ok (.aload_n 0, 1) := by decide +kernel
theorem d_Ru_init_5 : decode b_Ru_init 5 = .ok (.aload_n 1, 1) := by decide +kernel
theorem d_Ru_init_6 : decode b_Ru_init 6 = .ok (.putfield 13, 3) := by decide +kernel
theorem d_Ru_init_9 : decode b_Ru_init 9 = .ok (.aload_n 0, 1) := by decide +kernel
theorem d_Ru_init_10 : decode b_Ru_init 10 = .ok (.sipush 250, 3) := by decide +kernel
theorem d_Ru_init_13 : decode b_Ru_init 13 = .ok (.anewarray 19, 3) := by decide +kernel
theorem d_Ru_init_16 : decode b_Ru_init 16 = .ok (.putfield 21, 3) := by decide +kernel
theorem d_Ru_init_19 : decode b_Ru_init 19 = .ok (.iconst 0, 1) := by decide +kernel
theorem d_Ru_init_20 : decode b_Ru_init 20 = .ok (.istore_n 2, 1) := by decide +kernel
theorem d_Ru_init_21 : decode b_Ru_init 21 = .ok (.iload_n 2, 1) := by decide +kernel
theorem d_Ru_init_22 : decode b_Ru_init 22 = .ok (.aload_n 0, 1) := by decide +kernel
theorem d_Ru_init_23 : decode b_Ru_init 23 = .ok (.getfield 21, 3) := by decide +kernel
theorem d_Ru_init_26 : decode b_Ru_init 26 = .ok (.arraylength, 1) := by decide +kernel
theorem d_Ru_init_27 : decode b_Ru_init 27 = .ok (.if_icmp .ge 22, 3) := by decide +kernel
theorem d_Ru_init_30 : decode b_Ru_init 30 = .ok (.aload_n 0, 1) := by decide +kernel
theorem d_Ru_init_31 : decode b_Ru_init 31 = .ok (.getfield 21, 3) := by decide +kernel
theorem d_Ru_init_34 : decode b_Ru_init 34 = .ok (.iload_n 2, 1) := by decide +kernel
theorem d_Ru_init_35 : decode b_Ru_init 35 = .ok (.new 19, 3) := by decide +kernel
theorem d_Ru_init_38 : decode b_Ru_init 38 = .ok (.dup, 1) := by decide +kernel
theorem d_Ru_init_39 : decode b_Ru_init 39 = .ok (.invokespecial 25, 3) := by decide +kernel
theorem d_Ru_init_42 : decode b_Ru_init 42 = .ok (.aastore, 1) := by decide +kernel
theorem d_Ru_init_43 : decode b_Ru_init 43 = .ok (.iinc 2 1, 3) := by decide +kernel
theorem d_Ru_init_46 : decode b_Ru_init 46 = .ok (.goto (-25), 3) := by decide +kernel
theorem d_Ru_init_49 : decode b_Ru_init 49 = .ok (.aload_n 0, 1) := by decide +kernel
theorem d_Ru_init_50 : decode b_Ru_init 50 = .ok (.bipush 12, 2) := by decide +kernel
theorem d_Ru_init_52 : decode b_Ru_init 52 = .ok (.anewarray 26, 3) := by decide +kernel
theorem d_Ru_init_55 : decode b_Ru_init 55 = .ok (.putfield 28, 3) := by decide +kernel
theorem d_Ru_init_58 : decode b_Ru_init 58 = .ok (.iconst 0, 1) := by decide +kernel
theorem d_Ru_init_59 : decode b_Ru_init 59 = .ok (.istore_n 2, 1) := by decide +kernel
theorem d_Ru_init_60 : decode b_Ru_init 60 = .ok (.iload_n 2, 1) := by decide +kernel
theorem d_Ru_init_61 : decode b_Ru_init 61 = .ok (.aload_n 0, 1) := by decide +kernel
theorem d_Ru_init_62 : decode b_Ru_init 62 = .ok (.getfield 28, 3) := by decide +kernel
theorem d_Ru_init_65 : decode b_Ru_init 65 = .ok (.arraylength, 1) := by decide +kernel
theorem d_Ru_init_66 : decode b_Ru_init 66 = .ok (.if_icmp .ge 22, 3) := by decide +kernel
theorem d_Ru_init_69 : decode b_Ru_init 69 = .ok (.aload_n 0, 1) := by decide +kernel
theorem d_Ru_init_70 : decode b_Ru_init 70 = .ok (.getfield 28, 3) := by decide +kernel
theorem d_Ru_init_73 : decode b_Ru_init 73 = .ok (.iload_n 2, 1) := by decide +kernel
theorem d_Ru_init_74 : decode b_Ru_init 74 = .ok (.new 26, 3) := by decide +kernel
theorem d_Ru_init_77 : decode b_Ru_init 77 = .ok (.dup, 1) := by decide +kernel
theorem d_Ru_init_78 : decode b_Ru_init 78 = .ok (.invokespecial 32, 3) := by decide +kernel
theorem d_Ru_init_81 : decode b_Ru_init 81 = .ok (.aastore, 1) := by decide +kernel
theorem d_Ru_init_82 : decode b_Ru_init 82 = .ok (.iinc 2 1, 3) := by decide +kernel
theorem d_Ru_init_85 : decode b_Ru_init 85 = .ok (.goto (-25), 3) := by decide +kernel
theorem d_Ru_init_88 : decode b_Ru_init 88 = .ok (.aload_n 0, 1) := by decide +kernel
theorem d_Ru_init_89 : decode b_Ru_init 89 = .ok (.bipush 16, 2) := by decide +kernel
theorem d_Ru_init_91 : decode b_Ru_init 91 = .ok (.anewarray 3, 3) := by decide +kernel
theorem d_Ru_init_94 : decode b_Ru_init 94 = .ok (.putfield 33, 3) := by decide +kernel
theorem d_Ru_init_97 : decode b_Ru_init 97 = .ok (.aload_n 0, 1) := by decide +kernel
theorem d_Ru_init_98 : decode b_Ru_init 98 = .ok (.iconst (-1), 1) := by decide +kernel
theorem d_Ru_init_99 : decode b_Ru_init 99 = .ok (.putfield 37, 3) := by decide +kernel
theorem d_Ru_init_102 : decode b_Ru_init 102 = .ok (.return_, 1) := by decide +kernel
set_option maxHeartbeats 4000000 in
set_option maxRecDepth 100000 in
theorem c_Ru_init (l : Launch) (E : gh_E) (sz : Nat) (f : gh_F) (a vs : Nat) (ha : f a = some (.inr (4, [.null, .null, .null, .null, .null, .int 0, .int 0, .int 0, .int 0]))) : gh_M l y_Ru_init b_Ru_init 3 none E sz [.ref a, .ref vs] f { frames := 3, cells := 289, slots := 2948, locals := 60 } (fun r g1 => r = none ∧ ∃ (st ga po : Nat) (gS gG : Nat → Option Nat) (XS X K I : Nat → Nat), f st = none ∧ f ga = none ∧ f po = none ∧ st ≠ ga ∧ st ≠ po ∧ ga ≠ po ∧ g1 a = some (.inr (4, [.ref vs, .ref st, .ref ga, .ref po, .null, .int 0, .int 0, .int 0, .int (-1)])) ∧ g1 st = some (.inl (E.2.2.1 6, 250, .inr (.inr (.inr (.inr gS))))) ∧ g1 ga = some (.inl (E.2.2.1 5, 12, .inr (.inr (.inr (.inr gG))))) ∧ g1 po = some (gh_A16 E) ∧ gh_Ss f g1 gS 250 XS ∧ gh_Gs E f g1 gG 12 X K I ∧ (∀ j, j < 12 → K j ≠ po ∧ I j ≠ po) ∧ gh_fr f g1 (fun b => b ∈ ([a] : List Nat))) := by
  refine gh_open (by decide) (Nat.le_of_ble_eq_true rfl) ?_
  intro p e s m args below meth c A ls hAe C V hr hlocks hname hl
  have hx := C.1
  have hb := C.2.1
  have hini : meth.name = "<init>" := hname
  have hl : lv_has ls 3 [(0, .ref a), (1, .ref vs)] := hl
  have hfr : gh_fr f f (fun b => b ∈ ([a] : List Nat)) := gh_fr.rf
  refine lv_aload_n hx hb d_Ru_init_0 rfl (lv_at hl 0 rfl) ?_
  refine gh_obj C hl.1 o_Ru_7 (by decide) (by decide) d_Ru_init_1 ?_
  refine lv_aload_n hx hb d_Ru_init_4 rfl (lv_at hl 0 rfl) ?_
  refine lv_aload_n hx hb d_Ru_init_5 rfl (lv_at hl 1 rfl) ?_
  refine gh_putF C V hini ha gc_Ru gi_Ru ty_Ru nm_Ru 0 (by decide) f_Ru_13 rfl (by first | rfl | decide) (by first | rfl | decide) (Nat.le_of_ble_eq_true rfl) d_Ru_init_6 (fun H locs V => ?_)
  obtain ⟨f1, hff1⟩ : ∃ z9 : gh_F, z9 = gh_u f a (.inr (4, [.ref vs, .null, .null, .null, .null, .int 0, .int 0, .int 0, .int 0])) := ⟨_, rfl⟩
  have V : gh_V E A f1 s H locs := by rw [hff1]; exact V
  have hfr : gh_fr f f1 (fun b => b ∈ ([a] : List Nat)) := by rw [hff1]; exact hfr.put (Or.inl (by simp))
  have h_a_f1 : f1 a = some (.inr (4, [.ref vs, .null, .null, .null, .null, .int 0, .int 0, .int 0, .int 0])) := by rw [hff1, gh_us]
  refine lv_aload_n hx hb d_Ru_init_9 rfl (lv_at hl 0 rfl) ?_
  refine lv_sipush (v := 250) hx hb d_Ru_init_10 (by decide) ?_
  refine gh_newq (t0 := 6) (N := 250) C V k_Ru_19 C.2.2.2.2.2.2.2.1.2.2.2.2.2.2.2.2.1 rfl (by decide) (by decide) (by decide) (by first | decide | omega | (dsimp only; omega)) (by first | decide | omega | (dsimp only; omega)) d_Ru_init_13 (fun q2 H hnq2 V => ?_)
  obtain ⟨f3, hff3⟩ : ∃ z9 : gh_F, z9 = gh_u f1 q2 (.inl (E.2.2.1 6, 250, .inr (.inr (.inr (.inr (fun _ => none)))))) := ⟨_, rfl⟩
  have V : gh_V E A f3 s H locs := by rw [hff3]; exact V
  have nz_q2 : f q2 = none := hfr.non hnq2
  have hfr : gh_fr f f3 (fun b => b ∈ ([a] : List Nat)) := by rw [hff3]; exact hfr.put (Or.inr nz_q2)
  have ne_a_q2 : a ≠ q2 := gh_ne0 h_a_f1 hnq2
  have h_a_f3 : f3 a = some (.inr (4, [.ref vs, .null, .null, .null, .null, .int 0, .int 0, .int 0, .int 0])) := by rw [hff3, gh_un ne_a_q2]; exact h_a_f1
  have h_q2_f3 : f3 q2 = some (.inl (E.2.2.1 6, 250, .inr (.inr (.inr (.inr (fun _ => none)))))) := by rw [hff3, gh_us]
  refine gh_putF C V hini h_a_f3 gc_Ru gi_Ru ty_Ru nm_Ru 1 (by decide) f_Ru_21 rfl (by first | rfl | decide) (by first | rfl | decide) (Nat.le_of_ble_eq_true rfl) d_Ru_init_16 (fun H locs V => ?_)
  obtain ⟨f4, hff4⟩ : ∃ z9 : gh_F, z9 = gh_u f3 a (.inr (4, [.ref vs, .ref q2, .null, .null, .null, .int 0, .int 0, .int 0, .int 0])) := ⟨_, rfl⟩
  have V : gh_V E A f4 s H locs := by rw [hff4]; exact V
  have hfr : gh_fr f f4 (fun b => b ∈ ([a] : List Nat)) := by rw [hff4]; exact hfr.put (Or.inl (by simp))
  have h_q2_f4 : f4 q2 = some (.inl (E.2.2.1 6, 250, .inr (.inr (.inr (.inr (fun _ => none)))))) := by rw [hff4, gh_un (Ne.symm ne_a_q2)]; exact h_q2_f3
  have h_a_f4 : f4 a = some (.inr (4, [.ref vs, .ref q2, .null, .null, .null, .int 0, .int 0, .int 0, .int 0])) := by rw [hff4, gh_us]
  refine lv_iconst (v := 0) hx hb d_Ru_init_19 (by decide) ?_
  refine lv_istore_n hx hb d_Ru_init_20 rfl hl (by decide) rfl (fun ls hl => ?_)
  have hl : lv_has ls 3 [(2, .int 0), (0, .ref a), (1, .ref vs)] := hl
  have hl : lv_has ls 3 [(2, .int 0), (0, .ref a), (1, .ref vs)] := lv_sub hl [0, 1, 2] rfl
  have hfrLA := hfr
  have hl : lv_has ls 3 [(2, .int (nI 0)), (0, .ref a), (1, .ref vs)] := hl
  have loopA : ∀ (n i : Nat) (f1A : gh_F) (H : Heap) (locs : List Loc) (ls : Array Slot) (gA : Nat → Option Nat) (XA : Nat → Nat), i + n = 250 → f1A q2 = some (.inl (E.2.2.1 6, 250, .inr (.inr (.inr (.inr gA))))) → gh_Ss f4 f1A gA i XA → gh_fr f4 f1A (fun b => b ∈ ([q2] : List Nat)) → gh_V E A f1A s H locs → lv_has ls 3 [(2, .int (nI i)), (0, .ref a), (1, .ref vs)] → W p l e { frames := 3, cells := 289, slots := 2948, locals := 60 } s m args below meth c H locs (1 + 1 * i) (250 + 9 * i) (MQ below (gh_Q E f (fun r g1 => r = none ∧ ∃ (st ga po : Nat) (gS gG : Nat → Option Nat) (XS X K I : Nat → Nat), f st = none ∧ f ga = none ∧ f po = none ∧ st ≠ ga ∧ st ≠ po ∧ ga ≠ po ∧ g1 a = some (.inr (4, [.ref vs, .ref st, .ref ga, .ref po, .null, .int 0, .int 0, .int 0, .int (-1)])) ∧ g1 st = some (.inl (E.2.2.1 6, 250, .inr (.inr (.inr (.inr gS))))) ∧ g1 ga = some (.inl (E.2.2.1 5, 12, .inr (.inr (.inr (.inr gG))))) ∧ g1 po = some (gh_A16 E) ∧ gh_Ss f g1 gS 250 XS ∧ gh_Gs E f g1 gG 12 X K I ∧ (∀ j, j < 12 → K j ≠ po ∧ I j ≠ po) ∧ gh_fr f g1 (fun b => b ∈ ([a] : List Nat)))) args s 289 2948 A) (F0 m 21 ls []) := by
    intro n
    induction n with
    | zero =>
      intro i f1A H locs ls gA XA hi harrA hGsA hfr1A V hl
      have hi : 250 = i := by omega
      subst hi
      have h_a_lA : f1A a = some (.inr (4, [.ref vs, .ref q2, .null, .null, .null, .int 0, .int 0, .int 0, .int 0])) := hfr1A.at1 h_a_f4 ne_a_q2
      have hfr : gh_fr f f1A (fun b => b ∈ ([a] : List Nat)) := hfrLA.tr1 hfr1A (Or.inr nz_q2)
      have hfkA : gh_fr f1A f1A (fun b => b ∈ ([a] : List Nat)) := gh_fr.rf
      refine lv_iload_n hx hb d_Ru_init_21 rfl (lv_at hl 0 rfl) ?_
      refine lv_aload_n hx hb d_Ru_init_22 rfl (lv_at hl 1 rfl) ?_
      refine gh_get C V h_a_lA gc_Ru gi_Ru 1 (by decide) f_Ru_21 rfl rfl d_Ru_init_23 ?_
      refine gh_alen (t0 := 6) C V rfl harrA (v := nI 250) rfl d_Ru_init_26 ?_
      refine lv_icmp_ge (tgt := 49) hx hb d_Ru_init_27 (by decide) (fun c5 => ?_) (fun c5 => absurd (nI_le (Nat.le_refl _) (by decide)) c5)
      refine lv_aload_n hx hb d_Ru_init_49 rfl (lv_at hl 1 rfl) ?_
      refine lv_bipush (v := 12) hx hb d_Ru_init_50 (by decide) ?_
      refine gh_newq (t0 := 5) (N := 12) C V k_Ru_26 C.2.2.2.2.2.2.2.1.2.2.2.2.2.2.2.1 rfl (by decide) (by decide) (by decide) (by first | decide | omega | (dsimp only; omega)) (by first | decide | omega | (dsimp only; omega)) d_Ru_init_52 (fun q6 H hnq6 V => ?_)
      obtain ⟨f7, hff7⟩ : ∃ z9 : gh_F, z9 = gh_u f1A q6 (.inl (E.2.2.1 5, 12, .inr (.inr (.inr (.inr (fun _ => none)))))) := ⟨_, rfl⟩
      have V : gh_V E A f7 s H locs := by rw [hff7]; exact V
      have nz_q6 : f q6 = none := hfr.non hnq6
      have hfr : gh_fr f f7 (fun b => b ∈ ([a] : List Nat)) := by rw [hff7]; exact hfr.put (Or.inr nz_q6)
      have ne_q2_q6 : q2 ≠ q6 := gh_ne0 harrA hnq6
      have h_q2_f7 : f7 q2 = some (.inl (E.2.2.1 6, 250, .inr (.inr (.inr (.inr gA))))) := by rw [hff7, gh_un ne_q2_q6]; exact harrA
      have ne_a_q6 : a ≠ q6 := gh_ne0 h_a_lA hnq6
      have h_a_f7 : f7 a = some (.inr (4, [.ref vs, .ref q2, .null, .null, .null, .int 0, .int 0, .int 0, .int 0])) := by rw [hff7, gh_un ne_a_q6]; exact h_a_lA
      have h_q6_f7 : f7 q6 = some (.inl (E.2.2.1 5, 12, .inr (.inr (.inr (.inr (fun _ => none)))))) := by rw [hff7, gh_us]
      have nkA_q6 : f1A q6 = none := hfkA.non hnq6
      have hfkA : gh_fr f1A f7 (fun b => b ∈ ([a] : List Nat)) := by rw [hff7]; exact hfkA.put (Or.inr nkA_q6)
      refine gh_putF C V hini h_a_f7 gc_Ru gi_Ru ty_Ru nm_Ru 2 (by decide) f_Ru_28 rfl (by first | rfl | decide) (by first | rfl | decide) (Nat.le_of_ble_eq_true rfl) d_Ru_init_55 (fun H locs V => ?_)
      obtain ⟨f8, hff8⟩ : ∃ z9 : gh_F, z9 = gh_u f7 a (.inr (4, [.ref vs, .ref q2, .ref q6, .null, .null, .int 0, .int 0, .int 0, .int 0])) := ⟨_, rfl⟩
      have V : gh_V E A f8 s H locs := by rw [hff8]; exact V
      have hfr : gh_fr f f8 (fun b => b ∈ ([a] : List Nat)) := by rw [hff8]; exact hfr.put (Or.inl (by simp))
      have h_q2_f8 : f8 q2 = some (.inl (E.2.2.1 6, 250, .inr (.inr (.inr (.inr gA))))) := by rw [hff8, gh_un (Ne.symm ne_a_q2)]; exact h_q2_f7
      have h_q6_f8 : f8 q6 = some (.inl (E.2.2.1 5, 12, .inr (.inr (.inr (.inr (fun _ => none)))))) := by rw [hff8, gh_un (Ne.symm ne_a_q6)]; exact h_q6_f7
      have h_a_f8 : f8 a = some (.inr (4, [.ref vs, .ref q2, .ref q6, .null, .null, .int 0, .int 0, .int 0, .int 0])) := by rw [hff8, gh_us]
      have hfkA : gh_fr f1A f8 (fun b => b ∈ ([a] : List Nat)) := by rw [hff8]; exact hfkA.put (Or.inl (by simp))
      refine lv_iconst (v := 0) hx hb d_Ru_init_58 (by decide) ?_
      refine lv_istore_n hx hb d_Ru_init_59 rfl hl (by decide) rfl (fun ls hl => ?_)
      have hl : lv_has ls 3 [(2, .int 0), (0, .ref a), (1, .ref vs)] := hl
      have hl : lv_has ls 3 [(2, .int 0), (0, .ref a), (1, .ref vs)] := lv_sub hl [0, 1, 2] rfl
      have hfrLB := hfr
      have hfkLAB := hfkA
      have hl : lv_has ls 3 [(2, .int (nI 0)), (0, .ref a), (1, .ref vs)] := hl
      have loopB : ∀ (n i : Nat) (f1B : gh_F) (H : Heap) (locs : List Loc) (ls : Array Slot) (gB : Nat → Option Nat) (XB KB IB : Nat → Nat), i + n = 12 → f1B q6 = some (.inl (E.2.2.1 5, 12, .inr (.inr (.inr (.inr gB))))) → gh_Gs E f8 f1B gB i XB KB IB → gh_fr f8 f1B (fun b => b ∈ ([q6] : List Nat)) → gh_V E A f1B s H locs → lv_has ls 3 [(2, .int (nI i)), (0, .ref a), (1, .ref vs)] → W p l e { frames := 3, cells := 289, slots := 2948, locals := 60 } s m args below meth c H locs (252 + 3 * i) (2512 + 35 * i) (MQ below (gh_Q E f (fun r g1 => r = none ∧ ∃ (st ga po : Nat) (gS gG : Nat → Option Nat) (XS X K I : Nat → Nat), f st = none ∧ f ga = none ∧ f po = none ∧ st ≠ ga ∧ st ≠ po ∧ ga ≠ po ∧ g1 a = some (.inr (4, [.ref vs, .ref st, .ref ga, .ref po, .null, .int 0, .int 0, .int 0, .int (-1)])) ∧ g1 st = some (.inl (E.2.2.1 6, 250, .inr (.inr (.inr (.inr gS))))) ∧ g1 ga = some (.inl (E.2.2.1 5, 12, .inr (.inr (.inr (.inr gG))))) ∧ g1 po = some (gh_A16 E) ∧ gh_Ss f g1 gS 250 XS ∧ gh_Gs E f g1 gG 12 X K I ∧ (∀ j, j < 12 → K j ≠ po ∧ I j ≠ po) ∧ gh_fr f g1 (fun b => b ∈ ([a] : List Nat)))) args s 289 2948 A) (F0 m 60 ls []) := by
        intro n
        induction n with
        | zero =>
          intro i f1B H locs ls gB XB KB IB hi harrB hGsB hfr1B V hl
          have hi : 12 = i := by omega
          subst hi
          have h_q2_lB : f1B q2 = some (.inl (E.2.2.1 6, 250, .inr (.inr (.inr (.inr gA))))) := hfr1B.at1 h_q2_f8 ne_q2_q6
          have h_a_lB : f1B a = some (.inr (4, [.ref vs, .ref q2, .ref q6, .null, .null, .int 0, .int 0, .int 0, .int 0])) := hfr1B.at1 h_a_f8 ne_a_q6
          have hfr : gh_fr f f1B (fun b => b ∈ ([a] : List Nat)) := hfrLB.tr1 hfr1B (Or.inr nz_q6)
          have hfkA : gh_fr f1A f1B (fun b => b ∈ ([a] : List Nat)) := hfkLAB.tr1 hfr1B (Or.inr nkA_q6)
          have hfkB : gh_fr f1B f1B (fun b => b ∈ ([a] : List Nat)) := gh_fr.rf
          refine lv_iload_n hx hb d_Ru_init_60 rfl (lv_at hl 0 rfl) ?_
          refine lv_aload_n hx hb d_Ru_init_61 rfl (lv_at hl 1 rfl) ?_
          refine gh_get C V h_a_lB gc_Ru gi_Ru 2 (by decide) f_Ru_28 rfl rfl d_Ru_init_62 ?_
          refine gh_alen (t0 := 5) C V rfl harrB (v := nI 12) rfl d_Ru_init_65 ?_
          refine lv_icmp_ge (tgt := 88) hx hb d_Ru_init_66 (by decide) (fun c9 => ?_) (fun c9 => absurd (nI_le (Nat.le_refl _) (by decide)) c9)
          refine lv_aload_n hx hb d_Ru_init_88 rfl (lv_at hl 1 rfl) ?_
          refine lv_bipush (v := 16) hx hb d_Ru_init_89 (by decide) ?_
          refine gh_newq (t0 := 4) (N := 16) C V k_Ru_3 C.2.2.2.2.2.2.2.1.2.2.2.2.2.2.1 rfl (by decide) (by decide) (by decide) (by first | decide | omega | (dsimp only; omega)) (by first | decide | omega | (dsimp only; omega)) d_Ru_init_91 (fun q10 H hnq10 V => ?_)
          obtain ⟨f11, hff11⟩ : ∃ z9 : gh_F, z9 = gh_u f1B q10 (.inl (E.2.2.1 4, 16, .inr (.inr (.inr (.inr (fun _ => none)))))) := ⟨_, rfl⟩
          have V : gh_V E A f11 s H locs := by rw [hff11]; exact V
          have nz_q10 : f q10 = none := hfr.non hnq10
          have hfr : gh_fr f f11 (fun b => b ∈ ([a] : List Nat)) := by rw [hff11]; exact hfr.put (Or.inr nz_q10)
          have ne_q2_q10 : q2 ≠ q10 := gh_ne0 h_q2_lB hnq10
          have h_q2_f11 : f11 q2 = some (.inl (E.2.2.1 6, 250, .inr (.inr (.inr (.inr gA))))) := by rw [hff11, gh_un ne_q2_q10]; exact h_q2_lB
          have ne_q6_q10 : q6 ≠ q10 := gh_ne0 harrB hnq10
          have h_q6_f11 : f11 q6 = some (.inl (E.2.2.1 5, 12, .inr (.inr (.inr (.inr gB))))) := by rw [hff11, gh_un ne_q6_q10]; exact harrB
          have ne_a_q10 : a ≠ q10 := gh_ne0 h_a_lB hnq10
          have h_a_f11 : f11 a = some (.inr (4, [.ref vs, .ref q2, .ref q6, .null, .null, .int 0, .int 0, .int 0, .int 0])) := by rw [hff11, gh_un ne_a_q10]; exact h_a_lB
          have h_q10_f11 : f11 q10 = some (.inl (E.2.2.1 4, 16, .inr (.inr (.inr (.inr (fun _ => none)))))) := by rw [hff11, gh_us]
          have nkA_q10 : f1A q10 = none := hfkA.non hnq10
          have hfkA : gh_fr f1A f11 (fun b => b ∈ ([a] : List Nat)) := by rw [hff11]; exact hfkA.put (Or.inr nkA_q10)
          have nkB_q10 : f1B q10 = none := hfkB.non hnq10
          have hfkB : gh_fr f1B f11 (fun b => b ∈ ([a] : List Nat)) := by rw [hff11]; exact hfkB.put (Or.inr nkB_q10)
          refine gh_putF C V hini h_a_f11 gc_Ru gi_Ru ty_Ru nm_Ru 3 (by decide) f_Ru_33 rfl (by first | rfl | decide) (by first | rfl | decide) (Nat.le_of_ble_eq_true rfl) d_Ru_init_94 (fun H locs V => ?_)
          obtain ⟨f12, hff12⟩ : ∃ z9 : gh_F, z9 = gh_u f11 a (.inr (4, [.ref vs, .ref q2, .ref q6, .ref q10, .null, .int 0, .int 0, .int 0, .int 0])) := ⟨_, rfl⟩
          have V : gh_V E A f12 s H locs := by rw [hff12]; exact V
          have hfr : gh_fr f f12 (fun b => b ∈ ([a] : List Nat)) := by rw [hff12]; exact hfr.put (Or.inl (by simp))
          have h_q2_f12 : f12 q2 = some (.inl (E.2.2.1 6, 250, .inr (.inr (.inr (.inr gA))))) := by rw [hff12, gh_un (Ne.symm ne_a_q2)]; exact h_q2_f11
          have h_q6_f12 : f12 q6 = some (.inl (E.2.2.1 5, 12, .inr (.inr (.inr (.inr gB))))) := by rw [hff12, gh_un (Ne.symm ne_a_q6)]; exact h_q6_f11
          have h_q10_f12 : f12 q10 = some (.inl (E.2.2.1 4, 16, .inr (.inr (.inr (.inr (fun _ => none)))))) := by rw [hff12, gh_un (Ne.symm ne_a_q10)]; exact h_q10_f11
          have h_a_f12 : f12 a = some (.inr (4, [.ref vs, .ref q2, .ref q6, .ref q10, .null, .int 0, .int 0, .int 0, .int 0])) := by rw [hff12, gh_us]
          have hfkA : gh_fr f1A f12 (fun b => b ∈ ([a] : List Nat)) := by rw [hff12]; exact hfkA.put (Or.inl (by simp))
          have hfkB : gh_fr f1B f12 (fun b => b ∈ ([a] : List Nat)) := by rw [hff12]; exact hfkB.put (Or.inl (by simp))
          refine lv_aload_n hx hb d_Ru_init_97 rfl (lv_at hl 1 rfl) ?_
          refine lv_iconst (v := (-1)) hx hb d_Ru_init_98 (by decide) ?_
          refine gh_put C V h_a_f12 gc_Ru gi_Ru ty_Ru nm_Ru 8 (by decide) f_Ru_37 rfl (by first | rfl | decide) (by first | rfl | decide) (Nat.le_of_ble_eq_true rfl) d_Ru_init_99 (fun H locs V => ?_)
          obtain ⟨f13, hff13⟩ : ∃ z9 : gh_F, z9 = gh_u f12 a (.inr (4, [.ref vs, .ref q2, .ref q6, .ref q10, .null, .int 0, .int 0, .int 0, .int ((-1))])) := ⟨_, rfl⟩
          have V : gh_V E A f13 s H locs := by rw [hff13]; exact V
          have hfr : gh_fr f f13 (fun b => b ∈ ([a] : List Nat)) := by rw [hff13]; exact hfr.put (Or.inl (by simp))
          have h_q2_f13 : f13 q2 = some (.inl (E.2.2.1 6, 250, .inr (.inr (.inr (.inr gA))))) := by rw [hff13, gh_un (Ne.symm ne_a_q2)]; exact h_q2_f12
          have h_q6_f13 : f13 q6 = some (.inl (E.2.2.1 5, 12, .inr (.inr (.inr (.inr gB))))) := by rw [hff13, gh_un (Ne.symm ne_a_q6)]; exact h_q6_f12
          have h_q10_f13 : f13 q10 = some (.inl (E.2.2.1 4, 16, .inr (.inr (.inr (.inr (fun _ => none)))))) := by rw [hff13, gh_un (Ne.symm ne_a_q10)]; exact h_q10_f12
          have h_a_f13 : f13 a = some (.inr (4, [.ref vs, .ref q2, .ref q6, .ref q10, .null, .int 0, .int 0, .int 0, .int ((-1))])) := by rw [hff13, gh_us]
          have hfkA : gh_fr f1A f13 (fun b => b ∈ ([a] : List Nat)) := by rw [hff13]; exact hfkA.put (Or.inl (by simp))
          have hfkB : gh_fr f1B f13 (fun b => b ∈ ([a] : List Nat)) := by rw [hff13]; exact hfkB.put (Or.inl (by simp))
          refine gh_retv hAe C V hr hlocks d_Ru_init_102 (by first | decide | omega | (dsimp only; omega)) (by first | decide | omega | (dsimp only; omega)) ?_
          have hpo : ∀ j, j < 12 → KB j ≠ q10 ∧ IB j ≠ q10 := fun j hj => ⟨gh_ne0 (hGsB.1 j hj).2.2.1 nkB_q10, gh_ne0 (hGsB.1 j hj).2.2.2.1 nkB_q10⟩
          exact ⟨rfl, q2, q6, q10, gA, gB, XA, XB, KB, IB, nz_q2, nz_q6, nz_q10, ne_q2_q6, ne_q2_q10, ne_q6_q10, h_a_f13, h_q2_f13, h_q6_f13, h_q10_f13, (hGsA.keep hfkA (fun b hb => by rw [List.mem_singleton.mp hb, h_a_f4]; exact fun z => by cases z)).from hfrLA, (hGsB.keep hfkB (fun b hb => by rw [List.mem_singleton.mp hb, h_a_f8]; exact fun z => by cases z)).from hfrLB, hpo, hfr⟩
        | succ n ih =>
          intro i f1B H locs ls gB XB KB IB hi harrB hGsB hfr1B V hl
          have hiN : i < 12 := by omega
          have h_q2_lB : f1B q2 = some (.inl (E.2.2.1 6, 250, .inr (.inr (.inr (.inr gA))))) := hfr1B.at1 h_q2_f8 ne_q2_q6
          have h_a_lB : f1B a = some (.inr (4, [.ref vs, .ref q2, .ref q6, .null, .null, .int 0, .int 0, .int 0, .int 0])) := hfr1B.at1 h_a_f8 ne_a_q6
          have hfr : gh_fr f1B f1B (fun b => b ∈ ([q6] : List Nat)) := gh_fr.rf
          refine lv_iload_n hx hb d_Ru_init_60 rfl (lv_at hl 0 rfl) ?_
          refine lv_aload_n hx hb d_Ru_init_61 rfl (lv_at hl 1 rfl) ?_
          refine gh_get C V h_a_lB gc_Ru gi_Ru 2 (by decide) f_Ru_28 rfl rfl d_Ru_init_62 ?_
          refine gh_alen (t0 := 5) C V rfl harrB (v := nI 12) rfl d_Ru_init_65 ?_
          refine lv_icmp_ge (tgt := 88) hx hb d_Ru_init_66 (by decide) (fun c14 => absurd c14 (nI_ge hiN (by decide))) (fun c14 => ?_)
          refine lv_aload_n hx hb d_Ru_init_69 rfl (lv_at hl 1 rfl) ?_
          refine gh_get C V h_a_lB gc_Ru gi_Ru 2 (by decide) f_Ru_28 rfl rfl d_Ru_init_70 ?_
          refine lv_iload_n hx hb d_Ru_init_73 rfl (lv_at hl 0 rfl) ?_
          refine gh_new (fs := [.null, .null, .int 0]) C V gc_Ga gi_Ga ty_Ga k_Ru_26 n_Ga i_Ga (by decide) (by first | decide | omega | (dsimp only; omega)) (by first | decide | omega | (dsimp only; omega)) d_Ru_init_74 (fun q15 H hnq15 V => ?_)
          obtain ⟨f16, hff16⟩ : ∃ z9 : gh_F, z9 = gh_u f1B q15 (.inr (1, [.null, .null, .int 0])) := ⟨_, rfl⟩
          have V : gh_V E A f16 s H locs := by rw [hff16]; exact V
          have nz_q15 : f1B q15 = none := hfr.non hnq15
          have hfr : gh_fr f1B f16 (fun b => b ∈ ([q6] : List Nat)) := by rw [hff16]; exact hfr.put (Or.inr nz_q15)
          have ne_q2_q15 : q2 ≠ q15 := gh_ne0 h_q2_lB hnq15
          have h_q2_f16 : f16 q2 = some (.inl (E.2.2.1 6, 250, .inr (.inr (.inr (.inr gA))))) := by rw [hff16, gh_un ne_q2_q15]; exact h_q2_lB
          have ne_q6_q15 : q6 ≠ q15 := gh_ne0 harrB hnq15
          have h_q6_f16 : f16 q6 = some (.inl (E.2.2.1 5, 12, .inr (.inr (.inr (.inr gB))))) := by rw [hff16, gh_un ne_q6_q15]; exact harrB
          have ne_a_q15 : a ≠ q15 := gh_ne0 h_a_lB hnq15
          have h_a_f16 : f16 a = some (.inr (4, [.ref vs, .ref q2, .ref q6, .null, .null, .int 0, .int 0, .int 0, .int 0])) := by rw [hff16, gh_un ne_a_q15]; exact h_a_lB
          have h_q15_f16 : f16 q15 = some (.inr (1, [.null, .null, .int 0])) := by rw [hff16, gh_us]
          refine lv_dup hx hb d_Ru_init_77 rfl ?_
          refine gh_callI C V hl.1 m_Ga_init l_Ru_32 (c_Ga_init l E _ f16 q15 h_q15_f16) rfl ⟨by first | decide | omega | (dsimp only; omega), by first | decide | omega | (dsimp only; omega)⟩ ⟨by first | decide | omega | (dsimp only; omega), by first | decide | omega | (dsimp only; omega)⟩ (Nat.le_of_ble_eq_true rfl) rfl d_Ru_init_78 (fun r f19 H locs hp V => ?_)
          obtain ⟨rfl, k17, i18, hnk17, hni18, ne_k17_i18, h_q15_c, h_k17_c, h_i18_c, hfr2⟩ := hp
          refine W.eq (g2 := F0 m 81 ls [.ref q15, .int (nI i), .ref q6]) rfl ?_
          have h_q2_f19 : f19 q2 = some (.inl (E.2.2.1 6, 250, .inr (.inr (.inr (.inr gA))))) := hfr2.at1 h_q2_f16 ne_q2_q15
          have h_q6_f19 : f19 q6 = some (.inl (E.2.2.1 5, 12, .inr (.inr (.inr (.inr gB))))) := hfr2.at1 h_q6_f16 ne_q6_q15
          have h_a_f19 : f19 a = some (.inr (4, [.ref vs, .ref q2, .ref q6, .null, .null, .int 0, .int 0, .int 0, .int 0])) := hfr2.at1 h_a_f16 ne_a_q15
          have nz_k17 : f1B k17 = none := hfr.non hnk17
          have ne_q2_k17 : q2 ≠ k17 := gh_ne0 h_q2_f16 hnk17
          have ne_q6_k17 : q6 ≠ k17 := gh_ne0 h_q6_f16 hnk17
          have ne_a_k17 : a ≠ k17 := gh_ne0 h_a_f16 hnk17
          have ne_q15_k17 : q15 ≠ k17 := gh_ne0 h_q15_f16 hnk17
          have nz_i18 : f1B i18 = none := hfr.non hni18
          have ne_q2_i18 : q2 ≠ i18 := gh_ne0 h_q2_f16 hni18
          have ne_q6_i18 : q6 ≠ i18 := gh_ne0 h_q6_f16 hni18
          have ne_a_i18 : a ≠ i18 := gh_ne0 h_a_f16 hni18
          have ne_q15_i18 : q15 ≠ i18 := gh_ne0 h_q15_f16 hni18
          have hfr : gh_fr f1B f19 (fun b => b ∈ ([q6] : List Nat)) := hfr.tr1 hfr2 (Or.inr nz_q15)
          refine gn_aast (t0 := 5) (r := (R_Ga, T_Ga, 3)) C V rfl h_q6_f19 h_q15_c gc_Ga hiN (by decide) d_Ru_init_81 (fun H locs V => ?_)
          obtain ⟨f20, hff20⟩ : ∃ z9 : gh_F, z9 = gh_u f19 q6 (.inl (E.2.2.1 5, 12, .inr (.inr (.inr (.inr (va_up gB i (some q15))))))) := ⟨_, rfl⟩
          have V : gh_V E A f20 s H locs := by rw [hff20]; exact V
          have hfr : gh_fr f1B f20 (fun b => b ∈ ([q6] : List Nat)) := by rw [hff20]; exact hfr.put (Or.inl (by simp))
          have h_q2_f20 : f20 q2 = some (.inl (E.2.2.1 6, 250, .inr (.inr (.inr (.inr gA))))) := by rw [hff20, gh_un ne_q2_q6]; exact h_q2_f19
          have h_a_f20 : f20 a = some (.inr (4, [.ref vs, .ref q2, .ref q6, .null, .null, .int 0, .int 0, .int 0, .int 0])) := by rw [hff20, gh_un ne_a_q6]; exact h_a_f19
          have h_q15_f20 : f20 q15 = some (.inr (1, [.ref k17, .ref i18, .int 0])) := by rw [hff20, gh_un (Ne.symm ne_q6_q15)]; exact h_q15_c
          have h_k17_f20 : f20 k17 = some (gh_A16 E) := by rw [hff20, gh_un (Ne.symm ne_q6_k17)]; exact h_k17_c
          have h_i18_f20 : f20 i18 = some (gh_A16 E) := by rw [hff20, gh_un (Ne.symm ne_q6_i18)]; exact h_i18_c
          have h_q6_f20 : f20 q6 = some (.inl (E.2.2.1 5, 12, .inr (.inr (.inr (.inr (va_up gB i (some q15))))))) := by rw [hff20, gh_us]
          refine lv_iinc (k := 0) (v := (nI i) + 1) hx hb d_Ru_init_82 hl rfl (by rfl) (by decide) rfl (fun ls hl => ?_)
          have hl : lv_has ls 3 [(2, .int ((nI i) + 1)), (0, .ref a), (1, .ref vs)] := hl
          refine lv_goto (tgt := 60) hx hb d_Ru_init_85 (by decide) ?_
          have hl : lv_has ls 3 [(2, .int ((nI i) + 1)), (0, .ref a), (1, .ref vs)] := lv_sub hl [0, 1, 2] rfl
          have hl : lv_has ls 3 [(2, .int (nI (i + 1))), (0, .ref a), (1, .ref vs)] := by rw [nI_succ]; exact hl
          have hM : ∀ b, b ∈ ([q6] : List Nat) → f8 b ≠ none := fun b hb => by rw [List.mem_singleton.mp hb, h_q6_f8]; exact fun z => by cases z
          have hG2 := hGsB.step hfr hM (fun b hb => hfr1B.non hb) nz_q15 nz_k17 nz_i18 ne_k17_i18 h_q15_f20 h_k17_f20 h_i18_f20
          exact W.widen (by first | omega | (dsimp only; omega)) (by first | omega | (dsimp only; omega)) (ih (i + 1) _ H locs ls _ _ _ _ (by omega) h_q6_f20 hG2 (hfr1B.tr hfr (fun _ _ _ z => z)) V hl)
      exact W.widen (by first | decide | omega | (dsimp only; omega)) (by first | decide | omega | (dsimp only; omega)) (loopB 12 0 _ H locs ls _ (fun _ => 0) (fun _ => 0) (fun _ => 0) (by omega) h_q6_f8 gh_Gs.zero gh_fr.rf V hl)
    | succ n ih =>
      intro i f1A H locs ls gA XA hi harrA hGsA hfr1A V hl
      have hiN : i < 250 := by omega
      have h_a_lA : f1A a = some (.inr (4, [.ref vs, .ref q2, .null, .null, .null, .int 0, .int 0, .int 0, .int 0])) := hfr1A.at1 h_a_f4 ne_a_q2
      have hfr : gh_fr f1A f1A (fun b => b ∈ ([q2] : List Nat)) := gh_fr.rf
      refine lv_iload_n hx hb d_Ru_init_21 rfl (lv_at hl 0 rfl) ?_
      refine lv_aload_n hx hb d_Ru_init_22 rfl (lv_at hl 1 rfl) ?_
      refine gh_get C V h_a_lA gc_Ru gi_Ru 1 (by decide) f_Ru_21 rfl rfl d_Ru_init_23 ?_
      refine gh_alen (t0 := 6) C V rfl harrA (v := nI 250) rfl d_Ru_init_26 ?_
      refine lv_icmp_ge (tgt := 49) hx hb d_Ru_init_27 (by decide) (fun c21 => absurd c21 (nI_ge hiN (by decide))) (fun c21 => ?_)
      refine lv_aload_n hx hb d_Ru_init_30 rfl (lv_at hl 1 rfl) ?_
      refine gh_get C V h_a_lA gc_Ru gi_Ru 1 (by decide) f_Ru_21 rfl rfl d_Ru_init_31 ?_
      refine lv_iload_n hx hb d_Ru_init_34 rfl (lv_at hl 0 rfl) ?_
      refine gh_new (fs := [.int 0, .int 0, .null, .null, .null, .null, .int 0, .int 0, .null]) C V gc_St gi_St ty_St k_Ru_19 n_St i_St (by decide) (by first | decide | omega | (dsimp only; omega)) (by first | decide | omega | (dsimp only; omega)) d_Ru_init_35 (fun q22 H hnq22 V => ?_)
      obtain ⟨f23, hff23⟩ : ∃ z9 : gh_F, z9 = gh_u f1A q22 (.inr (5, [.int 0, .int 0, .null, .null, .null, .null, .int 0, .int 0, .null])) := ⟨_, rfl⟩
      have V : gh_V E A f23 s H locs := by rw [hff23]; exact V
      have nz_q22 : f1A q22 = none := hfr.non hnq22
      have hfr : gh_fr f1A f23 (fun b => b ∈ ([q2] : List Nat)) := by rw [hff23]; exact hfr.put (Or.inr nz_q22)
      have ne_q2_q22 : q2 ≠ q22 := gh_ne0 harrA hnq22
      have h_q2_f23 : f23 q2 = some (.inl (E.2.2.1 6, 250, .inr (.inr (.inr (.inr gA))))) := by rw [hff23, gh_un ne_q2_q22]; exact harrA
      have ne_a_q22 : a ≠ q22 := gh_ne0 h_a_lA hnq22
      have h_a_f23 : f23 a = some (.inr (4, [.ref vs, .ref q2, .null, .null, .null, .int 0, .int 0, .int 0, .int 0])) := by rw [hff23, gh_un ne_a_q22]; exact h_a_lA
      have h_q22_f23 : f23 q22 = some (.inr (5, [.int 0, .int 0, .null, .null, .null, .null, .int 0, .int 0, .null])) := by rw [hff23, gh_us]
      refine lv_dup hx hb d_Ru_init_38 rfl ?_
      refine gh_callIN C V hl.1 m_St_init C.2.2.2.2.2.2.2.1.2.2.2.2.2.2.2.2.2.1 (c_St_init l E _ f23 q22) rfl ⟨by first | decide | omega | (dsimp only; omega), by first | decide | omega | (dsimp only; omega)⟩ ⟨by first | decide | omega | (dsimp only; omega), by first | decide | omega | (dsimp only; omega)⟩ (Nat.le_of_ble_eq_true rfl) rfl d_Ru_init_39 (fun r z9 H locs hp V => ?_)
      obtain ⟨rfl, he9⟩ := hp
      rw [he9] at V
      refine W.eq (g2 := F0 m 42 ls [.ref q22, .int (nI i), .ref q2]) rfl ?_
      refine gn_aast (t0 := 6) (r := (R_St, T_St, 9)) C V rfl h_q2_f23 h_q22_f23 gc_St hiN (by decide) d_Ru_init_42 (fun H locs V => ?_)
      obtain ⟨f24, hff24⟩ : ∃ z9 : gh_F, z9 = gh_u f23 q2 (.inl (E.2.2.1 6, 250, .inr (.inr (.inr (.inr (va_up gA i (some q22))))))) := ⟨_, rfl⟩
      have V : gh_V E A f24 s H locs := by rw [hff24]; exact V
      have hfr : gh_fr f1A f24 (fun b => b ∈ ([q2] : List Nat)) := by rw [hff24]; exact hfr.put (Or.inl (by simp))
      have h_a_f24 : f24 a = some (.inr (4, [.ref vs, .ref q2, .null, .null, .null, .int 0, .int 0, .int 0, .int 0])) := by rw [hff24, gh_un ne_a_q2]; exact h_a_f23
      have h_q22_f24 : f24 q22 = some (.inr (5, [.int 0, .int 0, .null, .null, .null, .null, .int 0, .int 0, .null])) := by rw [hff24, gh_un (Ne.symm ne_q2_q22)]; exact h_q22_f23
      have h_q2_f24 : f24 q2 = some (.inl (E.2.2.1 6, 250, .inr (.inr (.inr (.inr (va_up gA i (some q22))))))) := by rw [hff24, gh_us]
      refine lv_iinc (k := 0) (v := (nI i) + 1) hx hb d_Ru_init_43 hl rfl (by rfl) (by decide) rfl (fun ls hl => ?_)
      have hl : lv_has ls 3 [(2, .int ((nI i) + 1)), (0, .ref a), (1, .ref vs)] := hl
      refine lv_goto (tgt := 21) hx hb d_Ru_init_46 (by decide) ?_
      have hl : lv_has ls 3 [(2, .int ((nI i) + 1)), (0, .ref a), (1, .ref vs)] := lv_sub hl [0, 1, 2] rfl
      have hl : lv_has ls 3 [(2, .int (nI (i + 1))), (0, .ref a), (1, .ref vs)] := by rw [nI_succ]; exact hl
      have hM : ∀ b, b ∈ ([q2] : List Nat) → f4 b ≠ none := fun b hb => by rw [List.mem_singleton.mp hb, h_q2_f4]; exact fun z => by cases z
      have hG2 := hGsA.step hfr hM (fun b hb => hfr1A.non hb) nz_q22 h_q22_f24
      exact W.widen (by first | omega | (dsimp only; omega)) (by first | omega | (dsimp only; omega)) (ih (i + 1) _ H locs ls _ _ (by omega) h_q2_f24 hG2 (hfr1A.tr hfr (fun _ _ _ z => z)) V hl)
  exact W.widen (by first | decide | omega | (dsimp only; omega)) (by first | decide | omega | (dsimp only; omega)) (loopA 250 0 _ H locs ls _ (fun _ => 0) (by omega) h_q2_f4 gh_Ss.zero gh_fr.rf V hl)
