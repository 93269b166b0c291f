/-! Constructors with loops: Reader, Runner. Printed by wip/whole/gen_init2.py. -/
theorem d_Re_init_0 : decode b_Re_init 0 = .ok (.aload_n 0, 1) := by decide +kernel
theorem d_Re_init_1 : decode b_Re_init 1 = .ok (.invokespecial 1, 3) := by decide +kernel
theorem d_Re_init_4 : decode b_Re_init 4 = .ok (.aload_n 0, 1) := by decide +kernel
theorem d_Re_init_5 : decode b_Re_init 5 = .ok (.aload_n 1, 1) := by decide +kernel
theorem d_Re_init_6 : decode b_Re_init 6 = .ok (.putfield 7, 3) := by decide +kernel
theorem d_Re_init_9 : decode b_Re_init 9 = .ok (.aload_n 0, 1) := by decide +kernel
theorem d_Re_init_10 : decode b_Re_init 10 = .ok (.bipush 8, 2) := by decide +kernel
theorem d_Re_init_12 : decode b_Re_init 12 = .ok (.anewarray 15, 3) := by decide +kernel
theorem d_Re_init_15 : decode b_Re_init 15 = .ok (.putfield 17, 3) := by decide +kernel
theorem d_Re_init_18 : decode b_Re_init 18 = .ok (.iconst 0, 1) := by decide +kernel
theorem d_Re_init_19 : decode b_Re_init 19 = .ok (.istore_n 2, 1) := by decide +kernel
theorem d_Re_init_20 : decode b_Re_init 20 = .ok (.iload_n 2, 1) := by decide +kernel
theorem d_Re_init_21 : decode b_Re_init 21 = .ok (.aload_n 0, 1) := by decide +kernel
theorem d_Re_init_22 : decode b_Re_init 22 = .ok (.getfield 17, 3) := by decide +kernel
theorem d_Re_init_25 : decode b_Re_init 25 = .ok (.arraylength, 1) := by decide +kernel
theorem d_Re_init_26 : decode b_Re_init 26 = .ok (.if_icmp .ge 22, 3) := by decide +kernel
theorem d_Re_init_29 : decode b_Re_init 29 = .ok (.aload_n 0, 1) := by decide +kernel
theorem d_Re_init_30 : decode b_Re_init 30 = .ok (.getfield 17, 3) := by decide +kernel
theorem d_Re_init_33 : decode b_Re_init 33 = .ok (.iload_n 2, 1) := by decide +kernel
theorem d_Re_init_34 : decode b_Re_init 34 = .ok (.new 15, 3) := by decide +kernel
theorem d_Re_init_37 : decode b_Re_init 37 = .ok (.dup, 1) := by decide +kernel
theorem d_Re_init_38 : decode b_Re_init 38 = .ok (.invokespecial 21, 3) := by decide +kernel
theorem d_Re_init_41 : decode b_Re_init 41 = .ok (.aastore, 1) := by decide +kernel
theorem d_Re_init_42 : decode b_Re_init 42 = .ok (.iinc 2 1, 3) := by decide +kernel
theorem d_Re_init_45 : decode b_Re_init 45 = .ok (.goto (-25), 3) := by decide +kernel
theorem d_Re_init_48 : decode b_Re_init 48 = .ok (.aload_n 0, 1) := by decide +kernel
theorem d_Re_init_49 : decode b_Re_init 49 = .ok (.bipush 24, 2) := by decide +kernel
theorem d_Re_init_51 : decode b_Re_init 51 = .ok (.newarray .char, 2) := by decide +kernel
theorem d_Re_init_53 : decode b_Re_init 53 = .ok (.putfield 22, 3) := by decide +kernel
theorem d_Re_init_56 : decode b_Re_init 56 = .ok (.aload_n 0, 1) := by decide +kernel
theorem d_Re_init_57 : decode b_Re_init 57 = .ok (.iconst (-1), 1) := by decide +kernel
theorem d_Re_init_58 : decode b_Re_init 58 = .ok (.putfield 26, 3) := by decide +kernel
theorem d_Re_init_61 : decode b_Re_init 61 = .ok (.return_, 1) := by decide +kernel
set_option maxHeartbeats 4000000 in
set_option maxRecDepth 100000 in
theorem c_Re_init (l : Launch) (E : gh_E) (f : gh_F) (a vs : Nat) (ha : f a = some (.inr (3, [.null, .null, .null, .null, .int 0, .int 0, .int 0]))) : gh_M l y_Re_init b_Re_init 3 none E [.ref a, .ref vs] f { frames := 3, cells := 26, slots := 319, locals := 60 } (fun r g1 => r = none ∧ ∃ (ga lt : Nat) (g : Nat → Option Nat) (X K I : Nat → Nat), f ga = none ∧ f lt = none ∧ ga ≠ lt ∧ g1 a = some (.inr (3, [.ref vs, .ref ga, .ref lt, .null, .int 0, .int 0, .int (-1)])) ∧ g1 ga = some (.inl (E.2.2.1 5, 8, .inr (.inr (.inr (.inr g))))) ∧ g1 lt = some (.inl (E.2.2.1 2, 24, .inl (fun _ => 0))) ∧ gh_Gs E f g1 g 8 X K I ∧ gh_fr f g1 (fun b => b ∈ ([a] : List Nat))) := by
  refine gh_open (by decide) (Nat.le_of_ble_eq_true rfl) ?_
  intro p e s m args below meth c ls hadm C V hr hlocks hname hl
  have hx := C.1
  have hb := C.2.1
  have hini : meth.name = "<init>" := hname
  have hl : lv_has ls 3 [(0, .ref a), (1, .ref vs)] := hl
  have hfr : gh_fr f f (fun b => b ∈ ([a] : List Nat)) := gh_fr.rf
  refine lv_aload_n hx hb d_Re_init_0 rfl (lv_at hl 0 rfl) ?_
  refine gh_obj C hl.1 o_Re_1 (by decide) (by decide) d_Re_init_1 ?_
  refine lv_aload_n hx hb d_Re_init_4 rfl (lv_at hl 0 rfl) ?_
  refine lv_aload_n hx hb d_Re_init_5 rfl (lv_at hl 1 rfl) ?_
  refine gh_putF C V hini ha gc_Re gi_Re ty_Re nm_Re 0 (by decide) f_Re_7 rfl (by first | rfl | decide) (by first | rfl | decide) (Nat.le_of_ble_eq_true rfl) d_Re_init_6 (fun H locs V => ?_)
  obtain ⟨f1, hff1⟩ : ∃ z9 : gh_F, z9 = gh_u f a (.inr (3, [.ref vs, .null, .null, .null, .int 0, .int 0, .int 0])) := ⟨_, rfl⟩
  have V : gh_V E f1 s H locs := by rw [hff1]; exact V
  have hfr : gh_fr f f1 (fun b => b ∈ ([a] : List Nat)) := by rw [hff1]; exact hfr.put (Or.inl (by simp))
  have h_a_f1 : f1 a = some (.inr (3, [.ref vs, .null, .null, .null, .int 0, .int 0, .int 0])) := by rw [hff1, gh_us]
  refine lv_aload_n hx hb d_Re_init_9 rfl (lv_at hl 0 rfl) ?_
  refine lv_bipush (v := 8) hx hb d_Re_init_10 (by decide) ?_
  refine gh_newq (t0 := 5) (N := 8) C V k_Re_15 C.2.2.2.2.2.2.2.2.2.2.2.2.2.2.1 rfl (by decide) (by decide) (by decide) (by first | decide | omega | (dsimp only; omega)) (by first | decide | omega | (dsimp only; omega)) d_Re_init_12 (fun q2 H hnq2 V => ?_)
  obtain ⟨f3, hff3⟩ : ∃ z9 : gh_F, z9 = gh_u f1 q2 (.inl (E.2.2.1 5, 8, .inr (.inr (.inr (.inr (fun _ => none)))))) := ⟨_, rfl⟩
  have V : gh_V E f3 s H locs := by rw [hff3]; exact V
  have nz_q2 : f q2 = none := hfr.non hnq2
  have hfr : gh_fr f f3 (fun b => b ∈ ([a] : List Nat)) := by rw [hff3]; exact hfr.put (Or.inr nz_q2)
  have ne_a_q2 : a ≠ q2 := gh_ne0 h_a_f1 hnq2
  have h_a_f3 : f3 a = some (.inr (3, [.ref vs, .null, .null, .null, .int 0, .int 0, .int 0])) := by rw [hff3, gh_un ne_a_q2]; exact h_a_f1
  have h_q2_f3 : f3 q2 = some (.inl (E.2.2.1 5, 8, .inr (.inr (.inr (.inr (fun _ => none)))))) := by rw [hff3, gh_us]
  refine gh_putF C V hini h_a_f3 gc_Re gi_Re ty_Re nm_Re 1 (by decide) f_Re_17 rfl (by first | rfl | decide) (by first | rfl | decide) (Nat.le_of_ble_eq_true rfl) d_Re_init_15 (fun H locs V => ?_)
  obtain ⟨f4, hff4⟩ : ∃ z9 : gh_F, z9 = gh_u f3 a (.inr (3, [.ref vs, .ref q2, .null, .null, .int 0, .int 0, .int 0])) := ⟨_, rfl⟩
  have V : gh_V E f4 s H locs := by rw [hff4]; exact V
  have hfr : gh_fr f f4 (fun b => b ∈ ([a] : List Nat)) := by rw [hff4]; exact hfr.put (Or.inl (by simp))
  have h_q2_f4 : f4 q2 = some (.inl (E.2.2.1 5, 8, .inr (.inr (.inr (.inr (fun _ => none)))))) := by rw [hff4, gh_un (Ne.symm ne_a_q2)]; exact h_q2_f3
  have h_a_f4 : f4 a = some (.inr (3, [.ref vs, .ref q2, .null, .null, .int 0, .int 0, .int 0])) := by rw [hff4, gh_us]
  refine lv_iconst (v := 0) hx hb d_Re_init_18 (by decide) ?_
  refine lv_istore_n hx hb d_Re_init_19 rfl hl (by decide) rfl (fun ls hl => ?_)
  have hl : lv_has ls 3 [(2, .int 0), (0, .ref a), (1, .ref vs)] := hl
  have hl : lv_has ls 3 [(2, .int 0), (0, .ref a), (1, .ref vs)] := lv_sub hl [0, 1, 2] rfl
  have hfrLu5 := hfr
  have hl : lv_has ls 3 [(2, .int (nI 0)), (0, .ref a), (1, .ref vs)] := hl
  have loopu5 : ∀ (n i : Nat) (f1 : gh_F) (H : Heap) (locs : List Loc) (ls : Array Slot) (g : Nat → Option Nat) (X K I : Nat → Nat), i + n = 8 → f1 q2 = some (.inl (E.2.2.1 5, 8, .inr (.inr (.inr (.inr g))))) → gh_Gs E f4 f1 g i X K I → gh_fr f4 f1 (fun b => b ∈ ([q2] : List Nat)) → gh_V E f1 s H locs → lv_has ls 3 [(2, .int (nI i)), (0, .ref a), (1, .ref vs)] → W p l e { frames := 3, cells := 26, slots := 319, locals := 60 } s m args below meth c H locs (1 + 3 * i) (8 + 35 * i) (MQ below (gh_Q E (fun r g1 => r = none ∧ ∃ (ga lt : Nat) (g : Nat → Option Nat) (X K I : Nat → Nat), f ga = none ∧ f lt = none ∧ ga ≠ lt ∧ g1 a = some (.inr (3, [.ref vs, .ref ga, .ref lt, .null, .int 0, .int 0, .int (-1)])) ∧ g1 ga = some (.inl (E.2.2.1 5, 8, .inr (.inr (.inr (.inr g))))) ∧ g1 lt = some (.inl (E.2.2.1 2, 24, .inl (fun _ => 0))) ∧ gh_Gs E f g1 g 8 X K I ∧ gh_fr f g1 (fun b => b ∈ ([a] : List Nat)))) args s 26 319 (gh_A E)) (F0 m 20 ls []) := by
    intro n
    induction n with
    | zero =>
      intro i f1 H locs ls g X K I hi harr hGs hfr1 V hl
      have hi : 8 = i := by omega
      subst hi
      have h_a_l : f1 a = some (.inr (3, [.ref vs, .ref q2, .null, .null, .int 0, .int 0, .int 0])) := hfr1.at1 h_a_f4 ne_a_q2
      have hfr : gh_fr f f1 (fun b => b ∈ ([a] : List Nat)) := hfrLu5.tr1 hfr1 (Or.inr nz_q2)
      have hGsu5 := hGs.from (hfrLu5)
      have hgku5 := hGs
      refine lv_iload_n hx hb d_Re_init_20 rfl (lv_at hl 0 rfl) ?_
      refine lv_aload_n hx hb d_Re_init_21 rfl (lv_at hl 1 rfl) ?_
      refine gh_get C V h_a_l gc_Re gi_Re 1 (by decide) f_Re_17 rfl rfl d_Re_init_22 ?_
      refine gh_alen (t0 := 5) C V rfl harr (v := nI 8) rfl d_Re_init_25 ?_
      refine lv_icmp_ge (tgt := 48) hx hb d_Re_init_26 (by decide) (fun c6 => ?_) (fun c6 => absurd (nI_le (Nat.le_refl _) (by decide)) c6)
      have hfk : gh_fr f1 f1 (fun b => b ∈ ([a] : List Nat)) := gh_fr.rf
      refine lv_aload_n hx hb d_Re_init_48 rfl (lv_at hl 1 rfl) ?_
      refine lv_bipush (v := 24) hx hb d_Re_init_49 (by decide) ?_
      refine gh_newa (atype := .char) (ty := .char) (t0 := 2) (a0 := (24, .inl (fun _ => 0))) (N := 24) C V rfl ac_char rfl (fun _ h => by cases h) (gh_a0i _ .char rfl) (by decide) (by decide) (by decide +kernel) (by first | decide | omega | (dsimp only; omega)) (by first | decide | omega | (dsimp only; omega)) d_Re_init_51 (fun q7 H hnq7 V => ?_)
      obtain ⟨f8, hff8⟩ : ∃ z9 : gh_F, z9 = gh_u f1 q7 (.inl (E.2.2.1 2, 24, .inl (fun _ => 0))) := ⟨_, rfl⟩
      have V : gh_V E f8 s H locs := by rw [hff8]; exact V
      have nz_q7 : f q7 = none := hfr.non hnq7
      have hfr : gh_fr f f8 (fun b => b ∈ ([a] : List Nat)) := by rw [hff8]; exact hfr.put (Or.inr nz_q7)
      have ne_q2_q7 : q2 ≠ q7 := gh_ne0 harr hnq7
      have h_q2_f8 : f8 q2 = some (.inl (E.2.2.1 5, 8, .inr (.inr (.inr (.inr g))))) := by rw [hff8, gh_un ne_q2_q7]; exact harr
      have ne_a_q7 : a ≠ q7 := gh_ne0 h_a_l hnq7
      have h_a_f8 : f8 a = some (.inr (3, [.ref vs, .ref q2, .null, .null, .int 0, .int 0, .int 0])) := by rw [hff8, gh_un ne_a_q7]; exact h_a_l
      have h_q7_f8 : f8 q7 = some (.inl (E.2.2.1 2, 24, .inl (fun _ => 0))) := by rw [hff8, gh_us]
      have nk_q7 : f1 q7 = none := hfk.non hnq7
      have hfk : gh_fr f1 f8 (fun b => b ∈ ([a] : List Nat)) := by rw [hff8]; exact hfk.put (Or.inr nk_q7)
      refine gh_putF C V hini h_a_f8 gc_Re gi_Re ty_Re nm_Re 2 (by decide) f_Re_22 rfl (by first | rfl | decide) (by first | rfl | decide) (Nat.le_of_ble_eq_true rfl) d_Re_init_53 (fun H locs V => ?_)
      obtain ⟨f9, hff9⟩ : ∃ z9 : gh_F, z9 = gh_u f8 a (.inr (3, [.ref vs, .ref q2, .ref q7, .null, .int 0, .int 0, .int 0])) := ⟨_, rfl⟩
      have V : gh_V E f9 s H locs := by rw [hff9]; exact V
      have hfr : gh_fr f f9 (fun b => b ∈ ([a] : List Nat)) := by rw [hff9]; exact hfr.put (Or.inl (by simp))
      have h_q2_f9 : f9 q2 = some (.inl (E.2.2.1 5, 8, .inr (.inr (.inr (.inr g))))) := by rw [hff9, gh_un (Ne.symm ne_a_q2)]; exact h_q2_f8
      have h_q7_f9 : f9 q7 = some (.inl (E.2.2.1 2, 24, .inl (fun _ => 0))) := by rw [hff9, gh_un (Ne.symm ne_a_q7)]; exact h_q7_f8
      have h_a_f9 : f9 a = some (.inr (3, [.ref vs, .ref q2, .ref q7, .null, .int 0, .int 0, .int 0])) := by rw [hff9, gh_us]
      have hfk : gh_fr f1 f9 (fun b => b ∈ ([a] : List Nat)) := by rw [hff9]; exact hfk.put (Or.inl (by simp))
      refine lv_aload_n hx hb d_Re_init_56 rfl (lv_at hl 1 rfl) ?_
      refine lv_iconst (v := (-1)) hx hb d_Re_init_57 (by decide) ?_
      refine gh_put C V h_a_f9 gc_Re gi_Re ty_Re nm_Re 6 (by decide) f_Re_26 rfl (by first | rfl | decide) (by first | rfl | decide) (Nat.le_of_ble_eq_true rfl) d_Re_init_58 (fun H locs V => ?_)
      obtain ⟨f10, hff10⟩ : ∃ z9 : gh_F, z9 = gh_u f9 a (.inr (3, [.ref vs, .ref q2, .ref q7, .null, .int 0, .int 0, .int ((-1))])) := ⟨_, rfl⟩
      have V : gh_V E f10 s H locs := by rw [hff10]; exact V
      have hfr : gh_fr f f10 (fun b => b ∈ ([a] : List Nat)) := by rw [hff10]; exact hfr.put (Or.inl (by simp))
      have h_q2_f10 : f10 q2 = some (.inl (E.2.2.1 5, 8, .inr (.inr (.inr (.inr g))))) := by rw [hff10, gh_un (Ne.symm ne_a_q2)]; exact h_q2_f9
      have h_q7_f10 : f10 q7 = some (.inl (E.2.2.1 2, 24, .inl (fun _ => 0))) := by rw [hff10, gh_un (Ne.symm ne_a_q7)]; exact h_q7_f9
      have h_a_f10 : f10 a = some (.inr (3, [.ref vs, .ref q2, .ref q7, .null, .int 0, .int 0, .int ((-1))])) := by rw [hff10, gh_us]
      have hfk : gh_fr f1 f10 (fun b => b ∈ ([a] : List Nat)) := by rw [hff10]; exact hfk.put (Or.inl (by simp))
      refine gh_retv C V hr hlocks d_Re_init_61 (by first | decide | omega | (dsimp only; omega)) (by first | decide | omega | (dsimp only; omega)) ?_
      have hk9 : gh_fr f1 f10 (fun b => b ∈ ([a] : List Nat)) := hfk
      exact ⟨rfl, q2, q7, g, X, K, I, nz_q2, nz_q7, ne_q2_q7, h_a_f10, h_q2_f10, h_q7_f10, (hgku5.keep hk9 (fun b hb => by rw [List.mem_singleton.mp hb, h_a_f4]; exact fun z => by cases z)).from hfrLu5, hfr⟩
    | succ n ih =>
      intro i f1 H locs ls g X K I hi harr hGs hfr1 V hl
      have hiN : i < 8 := by omega
      have h_a_l : f1 a = some (.inr (3, [.ref vs, .ref q2, .null, .null, .int 0, .int 0, .int 0])) := hfr1.at1 h_a_f4 ne_a_q2
      have hfr : gh_fr f1 f1 (fun b => b ∈ ([q2] : List Nat)) := gh_fr.rf
      refine lv_iload_n hx hb d_Re_init_20 rfl (lv_at hl 0 rfl) ?_
      refine lv_aload_n hx hb d_Re_init_21 rfl (lv_at hl 1 rfl) ?_
      refine gh_get C V h_a_l gc_Re gi_Re 1 (by decide) f_Re_17 rfl rfl d_Re_init_22 ?_
      refine gh_alen (t0 := 5) C V rfl harr (v := nI 8) rfl d_Re_init_25 ?_
      refine lv_icmp_ge (tgt := 48) hx hb d_Re_init_26 (by decide) (fun c11 => absurd c11 (nI_ge hiN (by decide))) (fun c11 => ?_)
      refine lv_aload_n hx hb d_Re_init_29 rfl (lv_at hl 1 rfl) ?_
      refine gh_get C V h_a_l gc_Re gi_Re 1 (by decide) f_Re_17 rfl rfl d_Re_init_30 ?_
      refine lv_iload_n hx hb d_Re_init_33 rfl (lv_at hl 0 rfl) ?_
      refine gh_new (fs := [.null, .null, .int 0]) C V gc_Ga gi_Ga ty_Ga k_Re_15 n_Ga i_Ga (by decide) (by first | decide | omega | (dsimp only; omega)) (by first | decide | omega | (dsimp only; omega)) d_Re_init_34 (fun q12 H hnq12 V => ?_)
      obtain ⟨f13, hff13⟩ : ∃ z9 : gh_F, z9 = gh_u f1 q12 (.inr (1, [.null, .null, .int 0])) := ⟨_, rfl⟩
      have V : gh_V E f13 s H locs := by rw [hff13]; exact V
      have nz_q12 : f1 q12 = none := hfr.non hnq12
      have hfr : gh_fr f1 f13 (fun b => b ∈ ([q2] : List Nat)) := by rw [hff13]; exact hfr.put (Or.inr nz_q12)
      have ne_q2_q12 : q2 ≠ q12 := gh_ne0 harr hnq12
      have h_q2_f13 : f13 q2 = some (.inl (E.2.2.1 5, 8, .inr (.inr (.inr (.inr g))))) := by rw [hff13, gh_un ne_q2_q12]; exact harr
      have ne_a_q12 : a ≠ q12 := gh_ne0 h_a_l hnq12
      have h_a_f13 : f13 a = some (.inr (3, [.ref vs, .ref q2, .null, .null, .int 0, .int 0, .int 0])) := by rw [hff13, gh_un ne_a_q12]; exact h_a_l
      have h_q12_f13 : f13 q12 = some (.inr (1, [.null, .null, .int 0])) := by rw [hff13, gh_us]
      refine lv_dup hx hb d_Re_init_37 rfl ?_
      refine gh_callI C V hl.1 m_Ga_init l_Re_21 (c_Ga_init l E f13 q12 h_q12_f13) rfl ⟨by first | decide | omega | (dsimp only; omega), by first | decide | omega | (dsimp only; omega)⟩ ⟨by first | decide | omega | (dsimp only; omega), by first | decide | omega | (dsimp only; omega)⟩ (Nat.le_of_ble_eq_true rfl) rfl d_Re_init_38 (fun r f16 H locs hp V => ?_)
      obtain ⟨rfl, k14, i15, hnk14, hni15, ne_k14_i15, h_q12_c, h_k14_c, h_i15_c, hfr2⟩ := hp
      refine W.eq (g2 := F0 m 41 ls [.ref q12, .int (nI i), .ref q2]) rfl ?_
      have h_q2_f16 : f16 q2 = some (.inl (E.2.2.1 5, 8, .inr (.inr (.inr (.inr g))))) := hfr2.at1 h_q2_f13 ne_q2_q12
      have h_a_f16 : f16 a = some (.inr (3, [.ref vs, .ref q2, .null, .null, .int 0, .int 0, .int 0])) := hfr2.at1 h_a_f13 ne_a_q12
      have nz_k14 : f1 k14 = none := hfr.non hnk14
      have ne_q2_k14 : q2 ≠ k14 := gh_ne0 h_q2_f13 hnk14
      have ne_a_k14 : a ≠ k14 := gh_ne0 h_a_f13 hnk14
      have ne_q12_k14 : q12 ≠ k14 := gh_ne0 h_q12_f13 hnk14
      have nz_i15 : f1 i15 = none := hfr.non hni15
      have ne_q2_i15 : q2 ≠ i15 := gh_ne0 h_q2_f13 hni15
      have ne_a_i15 : a ≠ i15 := gh_ne0 h_a_f13 hni15
      have ne_q12_i15 : q12 ≠ i15 := gh_ne0 h_q12_f13 hni15
      have hfr : gh_fr f1 f16 (fun b => b ∈ ([q2] : List Nat)) := hfr.tr1 hfr2 (Or.inr nz_q12)
      refine gn_aast (t0 := 5) (r := (R_Ga, T_Ga, 3)) C V rfl h_q2_f16 h_q12_c gc_Ga hiN (by decide) d_Re_init_41 (fun H locs V => ?_)
      obtain ⟨f17, hff17⟩ : ∃ z9 : gh_F, z9 = gh_u f16 q2 (.inl (E.2.2.1 5, 8, .inr (.inr (.inr (.inr (va_up g i (some q12))))))) := ⟨_, rfl⟩
      have V : gh_V E f17 s H locs := by rw [hff17]; exact V
      have hfr : gh_fr f1 f17 (fun b => b ∈ ([q2] : List Nat)) := by rw [hff17]; exact hfr.put (Or.inl (by simp))
      have h_a_f17 : f17 a = some (.inr (3, [.ref vs, .ref q2, .null, .null, .int 0, .int 0, .int 0])) := by rw [hff17, gh_un ne_a_q2]; exact h_a_f16
      have h_q12_f17 : f17 q12 = some (.inr (1, [.ref k14, .ref i15, .int 0])) := by rw [hff17, gh_un (Ne.symm ne_q2_q12)]; exact h_q12_c
      have h_k14_f17 : f17 k14 = some (gh_A16 E) := by rw [hff17, gh_un (Ne.symm ne_q2_k14)]; exact h_k14_c
      have h_i15_f17 : f17 i15 = some (gh_A16 E) := by rw [hff17, gh_un (Ne.symm ne_q2_i15)]; exact h_i15_c
      have h_q2_f17 : f17 q2 = some (.inl (E.2.2.1 5, 8, .inr (.inr (.inr (.inr (va_up g i (some q12))))))) := by rw [hff17, gh_us]
      refine lv_iinc (k := 0) (v := (nI i) + 1) hx hb d_Re_init_42 hl rfl (by rfl) (by decide) rfl (fun ls hl => ?_)
      have hl : lv_has ls 3 [(2, .int ((nI i) + 1)), (0, .ref a), (1, .ref vs)] := hl
      refine lv_goto (tgt := 20) hx hb d_Re_init_45 (by decide) ?_
      have hl : lv_has ls 3 [(2, .int ((nI i) + 1)), (0, .ref a), (1, .ref vs)] := lv_sub hl [0, 1, 2] rfl
      have hl : lv_has ls 3 [(2, .int (nI (i + 1))), (0, .ref a), (1, .ref vs)] := by rw [nI_succ]; exact hl
      have hM : ∀ b, b ∈ ([q2] : List Nat) → f4 b ≠ none := fun b hb => by rw [List.mem_singleton.mp hb, h_q2_f4]; exact fun z => by cases z
      have hG2 := hGs.step hfr hM (fun b hb => hfr1.non hb) nz_q12 nz_k14 nz_i15 ne_k14_i15 h_q12_f17 h_k14_f17 h_i15_f17
      exact W.widen (by first | omega | (dsimp only; omega)) (by first | omega | (dsimp only; omega)) (ih (i + 1) _ H locs ls _ _ _ _ (by omega) h_q2_f17 hG2 (hfr1.tr hfr (fun _ _ _ z => z)) V hl)
  exact W.widen (by first | decide | omega | (dsimp only; omega)) (by first | decide | omega | (dsimp only; omega)) (loopu5 8 0 _ H locs ls _ (fun _ => 0) (fun _ => 0) (fun _ => 0) (by omega) h_q2_f4 gh_Gs.zero gh_fr.rf V hl)
