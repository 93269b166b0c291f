/-! Value's constructor: weights are summed, heights bounded. Printed by wip/whole/gen_va.py. -/
def gh_wsum (w : Nat → Int32) : Nat → Int32
  | 0 => 1
  | n + 1 => gh_wsum w n + w n
def gh_hmax (h : Nat → Int32) : Nat → Int32
  | 0 => 0
  | n + 1 => if h n < gh_hmax h n then gh_hmax h n else h n + 1
theorem gh_hmax_lt {h : Nat → Int32} {i : Nat} (c : h i < gh_hmax h i) : gh_hmax h (i + 1) = gh_hmax h i := by simp [gh_hmax, c]
theorem gh_hmax_ge {h : Nat → Int32} {i : Nat} (c : ¬ h i < gh_hmax h i) : gh_hmax h (i + 1) = h i + 1 := by simp [gh_hmax, c]
theorem d_Va_init_0 : decode b_Va_init 0 = .ok (.aload_n 0, 1) := by decide +kernel
theorem d_Va_init_1 : decode b_Va_init 1 = .ok (.invokespecial 1, 3) := by decide +kernel
theorem d_Va_init_4 : decode b_Va_init 4 = .ok (.aload_n 0, 1) := by decide +kernel
theorem d_Va_init_5 : decode b_Va_init 5 = .ok (.iload_n 1, 1) := by decide +kernel
theorem d_Va_init_6 : decode b_Va_init 6 = .ok (.putfield 7, 3) := by decide +kernel
theorem d_Va_init_9 : decode b_Va_init 9 = .ok (.aload_n 0, 1) := by decide +kernel
theorem d_Va_init_10 : decode b_Va_init 10 = .ok (.lload_n 2, 1) := by decide +kernel
theorem d_Va_init_11 : decode b_Va_init 11 = .ok (.putfield 13, 3) := by decide +kernel
theorem d_Va_init_14 : decode b_Va_init 14 = .ok (.aload_n 0, 1) := by decide +kernel
theorem d_Va_init_15 : decode b_Va_init 15 = .ok (.aload 4, 2) := by decide +kernel
theorem d_Va_init_17 : decode b_Va_init 17 = .ok (.putfield 17, 3) := by decide +kernel
theorem d_Va_init_20 : decode b_Va_init 20 = .ok (.aload_n 0, 1) := by decide +kernel
theorem d_Va_init_21 : decode b_Va_init 21 = .ok (.aload 5, 2) := by decide +kernel
theorem d_Va_init_23 : decode b_Va_init 23 = .ok (.putfield 21, 3) := by decide +kernel
theorem d_Va_init_26 : decode b_Va_init 26 = .ok (.aload_n 0, 1) := by decide +kernel
theorem d_Va_init_27 : decode b_Va_init 27 = .ok (.aload 6, 2) := by decide +kernel
theorem d_Va_init_29 : decode b_Va_init 29 = .ok (.putfield 25, 3) := by decide +kernel
theorem d_Va_init_32 : decode b_Va_init 32 = .ok (.iconst 1, 1) := by decide +kernel
theorem d_Va_init_33 : decode b_Va_init 33 = .ok (.istore 7, 2) := by decide +kernel
theorem d_Va_init_35 : decode b_Va_init 35 = .ok (.iconst 0, 1) := by decide +kernel
theorem d_Va_init_36 : decode b_Va_init 36 = .ok (.istore 8, 2) := by decide +kernel
theorem d_Va_init_38 : decode b_Va_init 38 = .ok (.iconst 0, 1) := by decide +kernel
theorem d_Va_init_39 : decode b_Va_init 39 = .ok (.istore 9, 2) := by decide +kernel
theorem d_Va_init_41 : decode b_Va_init 41 = .ok (.iload 9, 2) := by decide +kernel
theorem d_Va_init_43 : decode b_Va_init 43 = .ok (.aload 6, 2) := by decide +kernel
theorem d_Va_init_45 : decode b_Va_init 45 = .ok (.arraylength, 1) := by decide +kernel
theorem d_Va_init_46 : decode b_Va_init 46 = .ok (.if_icmp .ge 47, 3) := by decide +kernel
theorem d_Va_init_49 : decode b_Va_init 49 = .ok (.iload 7, 2) := by decide +kernel
theorem d_Va_init_51 : decode b_Va_init 51 = .ok (.aload 6, 2) := by decide +kernel
theorem d_Va_init_53 : decode b_Va_init 53 = .ok (.iload 9, 2) := by decide +kernel
theorem d_Va_init_55 : decode b_Va_init 55 = .ok (.aaload, 1) := by decide +kernel
theorem d_Va_init_56 : decode b_Va_init 56 = .ok (.getfield 28, 3) := by decide +kernel
theorem d_Va_init_59 : decode b_Va_init 59 = .ok (.iadd, 1) := by decide +kernel
theorem d_Va_init_60 : decode b_Va_init 60 = .ok (.istore 7, 2) := by decide +kernel
theorem d_Va_init_62 : decode b_Va_init 62 = .ok (.aload 6, 2) := by decide +kernel
theorem d_Va_init_64 : decode b_Va_init 64 = .ok (.iload 9, 2) := by decide +kernel
theorem d_Va_init_66 : decode b_Va_init 66 = .ok (.aaload, 1) := by decide +kernel
theorem d_Va_init_67 : decode b_Va_init 67 = .ok (.getfield 31, 3) := by decide +kernel
theorem d_Va_init_70 : decode b_Va_init 70 = .ok (.iload 8, 2) := by decide +kernel
theorem d_Va_init_72 : decode b_Va_init 72 = .ok (.if_icmp .lt 15, 3) := by decide +kernel
theorem d_Va_init_75 : decode b_Va_init 75 = .ok (.aload 6, 2) := by decide +kernel
theorem d_Va_init_77 : decode b_Va_init 77 = .ok (.iload 9, 2) := by decide +kernel
theorem d_Va_init_79 : decode b_Va_init 79 = .ok (.aaload, 1) := by decide +kernel
theorem d_Va_init_80 : decode b_Va_init 80 = .ok (.getfield 31, 3) := by decide +kernel
theorem d_Va_init_83 : decode b_Va_init 83 = .ok (.iconst 1, 1) := by decide +kernel
theorem d_Va_init_84 : decode b_Va_init 84 = .ok (.iadd, 1) := by decide +kernel
theorem d_Va_init_85 : decode b_Va_init 85 = .ok (.istore 8, 2) := by decide +kernel
theorem d_Va_init_87 : decode b_Va_init 87 = .ok (.iinc 9 1, 3) := by decide +kernel
theorem d_Va_init_90 : decode b_Va_init 90 = .ok (.goto (-49), 3) := by decide +kernel
theorem d_Va_init_93 : decode b_Va_init 93 = .ok (.aload_n 0, 1) := by decide +kernel
theorem d_Va_init_94 : decode b_Va_init 94 = .ok (.iload 7, 2) := by decide +kernel
theorem d_Va_init_96 : decode b_Va_init 96 = .ok (.putfield 28, 3) := by decide +kernel
theorem d_Va_init_99 : decode b_Va_init 99 = .ok (.aload_n 0, 1) := by decide +kernel
theorem d_Va_init_100 : decode b_Va_init 100 = .ok (.iload 8, 2) := by decide +kernel
theorem d_Va_init_102 : decode b_Va_init 102 = .ok (.putfield 31, 3) := by decide +kernel
theorem d_Va_init_105 : decode b_Va_init 105 = .ok (.return_, 1) := by decide +kernel
set_option maxHeartbeats 4000000 in
set_option maxRecDepth 100000 in
theorem c_Va_init (l : Launch) (E : gh_E) (sz : Nat) (f : gh_F) (a : Nat) (k : Int32) (n0 : Int64) (lt ks it N : Nat) (g : Nat → Option Nat) (v : Nat → Nat) (wt ht : Nat → Int32) (ha : f a = some (.inr (6, [.int 0, .long 0, .null, .null, .null, .int 0, .int 0]))) (hit : f it = some (.inl (E.2.2.1 4, N, .inr (.inr (.inr (.inr g)))))) (hN : N ≤ 100) (hv : ∀ j, j < N → g j = some (v j) ∧ v j ≠ a ∧ ∃ x1 x2 x3 x4 x5, f (v j) = some (.inr (6, [x1, x2, x3, x4, x5, .int (wt j), .int (ht j)]))) : gh_M l y_Va_init b_Va_init 10 none E sz [.ref a, .int k, .long n0, .ref lt, .ref ks, .ref it] f { frames := 1, cells := 0, slots := 0, locals := 20 } (fun r g1 => r = none ∧ g1 a = some (.inr (6, [.int k, .long n0, .ref lt, .ref ks, .ref it, .int (gh_wsum wt N), .int (gh_hmax ht N)])) ∧ gh_fr f g1 (fun b => b ∈ ([a] : List Nat))) := by
  refine gh_open (by decide) (Nat.le_of_ble_eq_true rfl) ?_
  intro p e s m args below meth c A ls hAe C V hr hlocks hname hl
  have hx := C.1
  have hb := C.2.1
  have hini : meth.name = "<init>" := hname
  have hl : lv_has ls 10 [(0, .ref a), (1, .int k), (2, .long n0), (4, .ref lt), (5, .ref ks), (6, .ref it)] := hl
  have hfr : gh_fr f f (fun b => b ∈ ([a] : List Nat)) := gh_fr.rf
  refine lv_aload_n hx hb d_Va_init_0 rfl (lv_at hl 0 rfl) ?_
  refine gh_obj C hl.1 o_Va_1 (by decide) (by decide) d_Va_init_1 ?_
  refine lv_aload_n hx hb d_Va_init_4 rfl (lv_at hl 0 rfl) ?_
  refine lv_iload_n hx hb d_Va_init_5 rfl (lv_at hl 1 rfl) ?_
  refine gh_putF C V hini ha gc_Va gi_Va ty_Va nm_Va 0 (by decide) f_Va_7 rfl (by first | rfl | decide) (by first | rfl | decide) (Nat.le_of_ble_eq_true rfl) d_Va_init_6 (fun H locs V => ?_)
  obtain ⟨f1, hff1⟩ : ∃ z9 : gh_F, z9 = gh_u f a (.inr (6, [.int k, .long 0, .null, .null, .null, .int 0, .int 0])) := ⟨_, rfl⟩
  have V : gh_V E A f1 s H locs := by rw [hff1]; exact V
  have hfr : gh_fr f f1 (fun b => b ∈ ([a] : List Nat)) := by rw [hff1]; exact hfr.put (Or.inl (by simp))
  have h_it_f1 : f1 it = some (.inl (E.2.2.1 4, N, .inr (.inr (.inr (.inr g))))) := by rw [hff1, gh_un (gh_nek hit ha (show (100 : Nat) ≠ 6 by decide))]; exact hit
  have h_a_f1 : f1 a = some (.inr (6, [.int k, .long 0, .null, .null, .null, .int 0, .int 0])) := by rw [hff1, gh_us]
  refine lv_aload_n hx hb d_Va_init_9 rfl (lv_at hl 0 rfl) ?_
  refine lv_lload_n hx hb d_Va_init_10 rfl (lv_at hl 2 rfl) ?_
  refine gh_putF C V hini h_a_f1 gc_Va gi_Va ty_Va nm_Va 1 (by decide) f_Va_13 rfl (by first | rfl | decide) (by first | rfl | decide) (Nat.le_of_ble_eq_true rfl) d_Va_init_11 (fun H locs V => ?_)
  obtain ⟨f2, hff2⟩ : ∃ z9 : gh_F, z9 = gh_u f1 a (.inr (6, [.int k, .long n0, .null, .null, .null, .int 0, .int 0])) := ⟨_, rfl⟩
  have V : gh_V E A f2 s H locs := by rw [hff2]; exact V
  have hfr : gh_fr f f2 (fun b => b ∈ ([a] : List Nat)) := by rw [hff2]; exact hfr.put (Or.inl (by simp))
  have h_it_f2 : f2 it = some (.inl (E.2.2.1 4, N, .inr (.inr (.inr (.inr g))))) := by rw [hff2, gh_un (gh_nek h_it_f1 h_a_f1 (show (100 : Nat) ≠ 6 by decide))]; exact h_it_f1
  have h_a_f2 : f2 a = some (.inr (6, [.int k, .long n0, .null, .null, .null, .int 0, .int 0])) := by rw [hff2, gh_us]
  refine lv_aload_n hx hb d_Va_init_14 rfl (lv_at hl 0 rfl) ?_
  refine lv_aload hx hb d_Va_init_15 (lv_at hl 3 rfl) ?_
  refine gh_putF C V hini h_a_f2 gc_Va gi_Va ty_Va nm_Va 2 (by decide) f_Va_17 rfl (by first | rfl | decide) (by first | rfl | decide) (Nat.le_of_ble_eq_true rfl) d_Va_init_17 (fun H locs V => ?_)
  obtain ⟨f3, hff3⟩ : ∃ z9 : gh_F, z9 = gh_u f2 a (.inr (6, [.int k, .long n0, .ref lt, .null, .null, .int 0, .int 0])) := ⟨_, rfl⟩
  have V : gh_V E A f3 s H locs := by rw [hff3]; exact V
  have hfr : gh_fr f f3 (fun b => b ∈ ([a] : List Nat)) := by rw [hff3]; exact hfr.put (Or.inl (by simp))
  have h_it_f3 : f3 it = some (.inl (E.2.2.1 4, N, .inr (.inr (.inr (.inr g))))) := by rw [hff3, gh_un (gh_nek h_it_f2 h_a_f2 (show (100 : Nat) ≠ 6 by decide))]; exact h_it_f2
  have h_a_f3 : f3 a = some (.inr (6, [.int k, .long n0, .ref lt, .null, .null, .int 0, .int 0])) := by rw [hff3, gh_us]
  refine lv_aload_n hx hb d_Va_init_20 rfl (lv_at hl 0 rfl) ?_
  refine lv_aload hx hb d_Va_init_21 (lv_at hl 4 rfl) ?_
  refine gh_putF C V hini h_a_f3 gc_Va gi_Va ty_Va nm_Va 3 (by decide) f_Va_21 rfl (by first | rfl | decide) (by first | rfl | decide) (Nat.le_of_ble_eq_true rfl) d_Va_init_23 (fun H locs V => ?_)
  obtain ⟨f4, hff4⟩ : ∃ z9 : gh_F, z9 = gh_u f3 a (.inr (6, [.int k, .long n0, .ref lt, .ref ks, .null, .int 0, .int 0])) := ⟨_, rfl⟩
  have V : gh_V E A f4 s H locs := by rw [hff4]; exact V
  have hfr : gh_fr f f4 (fun b => b ∈ ([a] : List Nat)) := by rw [hff4]; exact hfr.put (Or.inl (by simp))
  have h_it_f4 : f4 it = some (.inl (E.2.2.1 4, N, .inr (.inr (.inr (.inr g))))) := by rw [hff4, gh_un (gh_nek h_it_f3 h_a_f3 (show (100 : Nat) ≠ 6 by decide))]; exact h_it_f3
  have h_a_f4 : f4 a = some (.inr (6, [.int k, .long n0, .ref lt, .ref ks, .null, .int 0, .int 0])) := by rw [hff4, gh_us]
  refine lv_aload_n hx hb d_Va_init_26 rfl (lv_at hl 0 rfl) ?_
  refine lv_aload hx hb d_Va_init_27 (lv_at hl 5 rfl) ?_
  refine gh_putF C V hini h_a_f4 gc_Va gi_Va ty_Va nm_Va 4 (by decide) f_Va_25 rfl (by first | rfl | decide) (by first | rfl | decide) (Nat.le_of_ble_eq_true rfl) d_Va_init_29 (fun H locs V => ?_)
  obtain ⟨f5, hff5⟩ : ∃ z9 : gh_F, z9 = gh_u f4 a (.inr (6, [.int k, .long n0, .ref lt, .ref ks, .ref it, .int 0, .int 0])) := ⟨_, rfl⟩
  have V : gh_V E A f5 s H locs := by rw [hff5]; exact V
  have hfr : gh_fr f f5 (fun b => b ∈ ([a] : List Nat)) := by rw [hff5]; exact hfr.put (Or.inl (by simp))
  have h_it_f5 : f5 it = some (.inl (E.2.2.1 4, N, .inr (.inr (.inr (.inr g))))) := by rw [hff5, gh_un (gh_nek h_it_f4 h_a_f4 (show (100 : Nat) ≠ 6 by decide))]; exact h_it_f4
  have h_a_f5 : f5 a = some (.inr (6, [.int k, .long n0, .ref lt, .ref ks, .ref it, .int 0, .int 0])) := by rw [hff5, gh_us]
  refine lv_iconst (v := 1) hx hb d_Va_init_32 (by decide) ?_
  refine lv_istore hx hb d_Va_init_33 hl (by decide) rfl (fun ls hl => ?_)
  have hl : lv_has ls 10 [(7, .int 1), (0, .ref a), (1, .int k), (2, .long n0), (4, .ref lt), (5, .ref ks), (6, .ref it)] := hl
  refine lv_iconst (v := 0) hx hb d_Va_init_35 (by decide) ?_
  refine lv_istore hx hb d_Va_init_36 hl (by decide) rfl (fun ls hl => ?_)
  have hl : lv_has ls 10 [(8, .int 0), (7, .int 1), (0, .ref a), (1, .int k), (2, .long n0), (4, .ref lt), (5, .ref ks), (6, .ref it)] := hl
  refine lv_iconst (v := 0) hx hb d_Va_init_38 (by decide) ?_
  refine lv_istore hx hb d_Va_init_39 hl (by decide) rfl (fun ls hl => ?_)
  have hl : lv_has ls 10 [(9, .int 0), (8, .int 0), (7, .int 1), (0, .ref a), (1, .int k), (2, .long n0), (4, .ref lt), (5, .ref ks), (6, .ref it)] := hl
  have hl : lv_has ls 10 [(9, .int 0), (8, .int 0), (7, .int 1), (0, .ref a), (1, .int k), (2, .long n0), (4, .ref lt), (5, .ref ks), (6, .ref it)] := lv_sub hl [0, 1, 2, 3, 4, 5, 6, 7, 8] rfl
  have hl : lv_has ls 10 [(9, .int (nI 0)), (8, .int (gh_hmax ht 0)), (7, .int (gh_wsum wt 0)), (0, .ref a), (1, .int k), (2, .long n0), (4, .ref lt), (5, .ref ks), (6, .ref it)] := hl
  have hvf : ∀ j, j < N → ∃ x1 x2 x3 x4 x5, f5 (v j) = some (.inr (6, [x1, x2, x3, x4, x5, .int (wt j), .int (ht j)])) := fun j hj => by
    obtain ⟨-, hne, x1, x2, x3, x4, x5, hx5⟩ := hv j hj
    exact ⟨x1, x2, x3, x4, x5, hfr.at hx5 (by simp; exact hne)⟩
  have loop : ∀ (n i : Nat) (ls : Array Slot), i + n = N → lv_has ls 10 [(9, .int (nI i)), (8, .int (gh_hmax ht i)), (7, .int (gh_wsum wt i)), (0, .ref a), (1, .int k), (2, .long n0), (4, .ref lt), (5, .ref ks), (6, .ref it)] → W p l e { frames := 1, cells := 0, slots := 0, locals := 20 } s m args below meth c H locs 0 0 (MQ below (gh_Q E f (fun r g1 => r = none ∧ g1 a = some (.inr (6, [.int k, .long n0, .ref lt, .ref ks, .ref it, .int (gh_wsum wt N), .int (gh_hmax ht N)])) ∧ gh_fr f g1 (fun b => b ∈ ([a] : List Nat)))) args s 0 0 A) (F0 m 41 ls []) := by
    intro n
    induction n with
    | zero =>
      intro i ls hi hl
      have hi : N = i := by omega
      subst hi
      refine lv_iload hx hb d_Va_init_41 (lv_at hl 0 rfl) ?_
      refine lv_aload hx hb d_Va_init_43 (lv_at hl 8 rfl) ?_
      refine gh_alen (t0 := 4) C V rfl h_it_f5 (v := nI N) rfl d_Va_init_45 ?_
      refine lv_icmp_ge (tgt := 93) hx hb d_Va_init_46 (by decide) (fun c6 => ?_) (fun c6 => absurd (nI_le (Nat.le_refl _) (by omega)) c6)
      refine lv_aload_n hx hb d_Va_init_93 rfl (lv_at hl 3 rfl) ?_
      refine lv_iload hx hb d_Va_init_94 (lv_at hl 2 rfl) ?_
      refine gh_putF C V hini h_a_f5 gc_Va gi_Va ty_Va nm_Va 5 (by decide) f_Va_28 rfl (by first | rfl | decide) (by first | rfl | decide) (Nat.le_of_ble_eq_true rfl) d_Va_init_96 (fun H locs V => ?_)
      obtain ⟨f7, hff7⟩ : ∃ z9 : gh_F, z9 = gh_u f5 a (.inr (6, [.int k, .long n0, .ref lt, .ref ks, .ref it, .int (gh_wsum wt N), .int 0])) := ⟨_, rfl⟩
      have V : gh_V E A f7 s H locs := by rw [hff7]; exact V
      have hfr : gh_fr f f7 (fun b => b ∈ ([a] : List Nat)) := by rw [hff7]; exact hfr.put (Or.inl (by simp))
      have h_it_f7 : f7 it = some (.inl (E.2.2.1 4, N, .inr (.inr (.inr (.inr g))))) := by rw [hff7, gh_un (gh_nek h_it_f5 h_a_f5 (show (100 : Nat) ≠ 6 by decide))]; exact h_it_f5
      have h_a_f7 : f7 a = some (.inr (6, [.int k, .long n0, .ref lt, .ref ks, .ref it, .int (gh_wsum wt N), .int 0])) := by rw [hff7, gh_us]
      refine lv_aload_n hx hb d_Va_init_99 rfl (lv_at hl 3 rfl) ?_
      refine lv_iload hx hb d_Va_init_100 (lv_at hl 1 rfl) ?_
      refine gh_putF C V hini h_a_f7 gc_Va gi_Va ty_Va nm_Va 6 (by decide) f_Va_31 rfl (by first | rfl | decide) (by first | rfl | decide) (Nat.le_of_ble_eq_true rfl) d_Va_init_102 (fun H locs V => ?_)
      obtain ⟨f8, hff8⟩ : ∃ z9 : gh_F, z9 = gh_u f7 a (.inr (6, [.int k, .long n0, .ref lt, .ref ks, .ref it, .int (gh_wsum wt N), .int (gh_hmax ht N)])) := ⟨_, rfl⟩
      have V : gh_V E A f8 s H locs := by rw [hff8]; exact V
      have hfr : gh_fr f f8 (fun b => b ∈ ([a] : List Nat)) := by rw [hff8]; exact hfr.put (Or.inl (by simp))
      have h_it_f8 : f8 it = some (.inl (E.2.2.1 4, N, .inr (.inr (.inr (.inr g))))) := by rw [hff8, gh_un (gh_nek h_it_f7 h_a_f7 (show (100 : Nat) ≠ 6 by decide))]; exact h_it_f7
      have h_a_f8 : f8 a = some (.inr (6, [.int k, .long n0, .ref lt, .ref ks, .ref it, .int (gh_wsum wt N), .int (gh_hmax ht N)])) := by rw [hff8, gh_us]
      refine gh_retv hAe C V hr hlocks d_Va_init_105 (by first | decide | omega | (dsimp only; omega)) (by first | decide | omega | (dsimp only; omega)) ?_
      exact ⟨rfl, h_a_f8, hfr⟩
    | succ n ih =>
      intro i ls hi hl
      have hiN : i < N := by omega
      have hg : g i = some (v i) := (hv i hiN).1
      obtain ⟨x1, x2, x3, x4, x5, hvi⟩ := hvf i hiN
      refine lv_iload hx hb d_Va_init_41 (lv_at hl 0 rfl) ?_
      refine lv_aload hx hb d_Va_init_43 (lv_at hl 8 rfl) ?_
      refine gh_alen (t0 := 4) C V rfl h_it_f5 (v := nI N) rfl d_Va_init_45 ?_
      refine lv_icmp_ge (tgt := 93) hx hb d_Va_init_46 (by decide) (fun c9 => absurd c9 (nI_ge hiN (by omega))) (fun c9 => ?_)
      refine lv_iload hx hb d_Va_init_49 (lv_at hl 2 rfl) ?_
      refine lv_aload hx hb d_Va_init_51 (lv_at hl 8 rfl) ?_
      refine lv_iload hx hb d_Va_init_53 (lv_at hl 0 rfl) ?_
      refine gn_aald (t0 := 4) C V rfl h_it_f5 hiN (by omega) hg d_Va_init_55 ?_
      refine gh_get C V hvi gc_Va gi_Va 5 (by decide) f_Va_28 rfl rfl d_Va_init_56 ?_
      refine lv_iadd hx hb d_Va_init_59 ?_
      refine lv_istore hx hb d_Va_init_60 hl (by decide) rfl (fun ls hl => ?_)
      have hl : lv_has ls 10 [(7, .int ((gh_wsum wt i) + (wt i))), (9, .int (nI i)), (8, .int (gh_hmax ht i)), (0, .ref a), (1, .int k), (2, .long n0), (4, .ref lt), (5, .ref ks), (6, .ref it)] := hl
      refine lv_aload hx hb d_Va_init_62 (lv_at hl 8 rfl) ?_
      refine lv_iload hx hb d_Va_init_64 (lv_at hl 1 rfl) ?_
      refine gn_aald (t0 := 4) C V rfl h_it_f5 hiN (by omega) hg d_Va_init_66 ?_
      refine gh_get C V hvi gc_Va gi_Va 6 (by decide) f_Va_31 rfl rfl d_Va_init_67 ?_
      refine lv_iload hx hb d_Va_init_70 (lv_at hl 2 rfl) ?_
      refine lv_icmp_lt (tgt := 87) hx hb d_Va_init_72 (by decide) (fun c10 => ?_) (fun c10 => ?_)
      · refine lv_iinc (k := 1) (v := (nI i) + 1) hx hb d_Va_init_87 hl rfl (by rfl) (by decide) rfl (fun ls hl => ?_)
        have hl : lv_has ls 10 [(9, .int ((nI i) + 1)), (7, .int ((gh_wsum wt i) + (wt i))), (8, .int (gh_hmax ht i)), (0, .ref a), (1, .int k), (2, .long n0), (4, .ref lt), (5, .ref ks), (6, .ref it)] := hl
        refine lv_goto (tgt := 41) hx hb d_Va_init_90 (by decide) ?_
        have hl : lv_has ls 10 [(9, .int ((nI i) + 1)), (8, .int (gh_hmax ht i)), (7, .int ((gh_wsum wt i) + (wt i))), (0, .ref a), (1, .int k), (2, .long n0), (4, .ref lt), (5, .ref ks), (6, .ref it)] := lv_sub hl [0, 2, 1, 3, 4, 5, 6, 7, 8] rfl
        have hl : lv_has ls 10 [(9, .int (nI (i + 1))), (8, .int (gh_hmax ht (i + 1))), (7, .int (gh_wsum wt (i + 1))), (0, .ref a), (1, .int k), (2, .long n0), (4, .ref lt), (5, .ref ks), (6, .ref it)] := by rw [nI_succ, gh_hmax_lt c10]; exact hl
        exact ih (i + 1) ls (by omega) hl
      · refine lv_aload hx hb d_Va_init_75 (lv_at hl 8 rfl) ?_
        refine lv_iload hx hb d_Va_init_77 (lv_at hl 1 rfl) ?_
        refine gn_aald (t0 := 4) C V rfl h_it_f5 hiN (by omega) hg d_Va_init_79 ?_
        refine gh_get C V hvi gc_Va gi_Va 6 (by decide) f_Va_31 rfl rfl d_Va_init_80 ?_
        refine lv_iconst (v := 1) hx hb d_Va_init_83 (by decide) ?_
        refine lv_iadd hx hb d_Va_init_84 ?_
        refine lv_istore hx hb d_Va_init_85 hl (by decide) rfl (fun ls hl => ?_)
        have hl : lv_has ls 10 [(8, .int ((ht i) + 1)), (7, .int ((gh_wsum wt i) + (wt i))), (9, .int (nI i)), (0, .ref a), (1, .int k), (2, .long n0), (4, .ref lt), (5, .ref ks), (6, .ref it)] := hl
        refine lv_iinc (k := 2) (v := (nI i) + 1) hx hb d_Va_init_87 hl rfl (by rfl) (by decide) rfl (fun ls hl => ?_)
        have hl : lv_has ls 10 [(9, .int ((nI i) + 1)), (8, .int ((ht i) + 1)), (7, .int ((gh_wsum wt i) + (wt i))), (0, .ref a), (1, .int k), (2, .long n0), (4, .ref lt), (5, .ref ks), (6, .ref it)] := hl
        refine lv_goto (tgt := 41) hx hb d_Va_init_90 (by decide) ?_
        have hl : lv_has ls 10 [(9, .int ((nI i) + 1)), (8, .int ((ht i) + 1)), (7, .int ((gh_wsum wt i) + (wt i))), (0, .ref a), (1, .int k), (2, .long n0), (4, .ref lt), (5, .ref ks), (6, .ref it)] := lv_sub hl [0, 1, 2, 3, 4, 5, 6, 7, 8] rfl
        have hl : lv_has ls 10 [(9, .int (nI (i + 1))), (8, .int (gh_hmax ht (i + 1))), (7, .int (gh_wsum wt (i + 1))), (0, .ref a), (1, .int k), (2, .long n0), (4, .ref lt), (5, .ref ks), (6, .ref it)] := by rw [nI_succ, gh_hmax_ge c10]; exact hl
        exact ih (i + 1) ls (by omega) hl
  exact loop N 0 ls (by omega) hl
