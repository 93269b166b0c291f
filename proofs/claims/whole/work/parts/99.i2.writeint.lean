/-! Writer.writeInteger. Printed by wip/whole/gen_wr2.py. -/
theorem dg_tab : ∀ k : Nat, k < 19 → (((48 : Int32) + (if 0 ≤ (Int64.ofInt ((k : Int) - 9)).toInt32 then (Int64.ofInt ((k : Int) - 9)).toInt32 else 0 - (Int64.ofInt ((k : Int) - 9)).toInt32)).toUInt32 % 65536).toInt32 = nI (48 + ((k : Int) - 9).natAbs) := by decide +kernel
theorem dg_c {y : Int64} : (((48 : Int32) + (if 0 ≤ (y - y / 10 * 10).toInt32 then (y - y / 10 * 10).toInt32 else 0 - (y - y / 10 * 10).toInt32)).toUInt32 % 65536).toInt32 = nI (48 + y.toInt.natAbs % 10) := by
  have h1 : (y - y / 10 * 10).toInt = y.toInt.tmod 10 := dv_int
  have h2 : (y.toInt.tmod 10).natAbs = y.toInt.natAbs % 10 := by rw [Int.natAbs_tmod]; rfl
  have h3 : y.toInt.natAbs % 10 < 10 := Nat.mod_lt _ (by decide)
  obtain ⟨k, hk⟩ : ∃ k : Nat, y.toInt.tmod 10 = (k : Int) - 9 := ⟨(y.toInt.tmod 10 + 9).toNat, by omega⟩
  have h4 : y - y / 10 * 10 = Int64.ofInt ((k : Int) - 9) := by rw [← hk, ← h1, Int64.ofInt_toInt]
  rw [h4, ← h2, hk]
  exact dg_tab k (by omega)
theorem dg_q {y : Int64} {m s : Nat} (h : y.toInt.natAbs = m / 10 ^ s) : (y / 10).toInt.natAbs = m / 10 ^ (s + 1) := by
  have hy := l_rng y
  have e10 : (10 : Int64).toInt = 10 := by decide
  have r10 := td_rng (show (1 : Int) ≤ 10 by decide) hy.1 hy.2
  have e2 : (y / 10).toInt = y.toInt.tdiv 10 := by
    rw [Int64.toInt_div, e10]
    exact Int.bmod_eq_of_le (by omega) (by omega)
  rw [e2, Int.natAbs_tdiv, h, Nat.pow_succ, ← Nat.div_div_eq_div_mul]
  rfl
theorem dg_0 {y : Int64} : y = 0 ↔ y.toInt.natAbs = 0 := by
  rw [← Int64.toInt_inj]
  show y.toInt = 0 ↔ _
  omega
theorem wr_n_s {m s : Nat} (h1 : m / 10 ^ (s + 1) = 0) (h2 : s = 0 ∨ ¬ m / 10 ^ s = 0) : ∀ k, wr_n m (s + 1 + k) = s + 1 := by
  intro k
  induction k with
  | zero =>
    show (if m / 10 ^ s % 10 ≠ 0 ∨ s = 0 then s + 1 else wr_n m s) = s + 1
    refine if_pos ?_
    rcases h2 with h2 | h2
    · exact Or.inr h2
    · left
      have h3 : m / 10 ^ s / 10 = 0 := by rw [Nat.div_div_eq_div_mul, ← Nat.pow_succ]; exact h1
      omega
  | succ k ih =>
    show (if m / 10 ^ (s + 1 + k) % 10 ≠ 0 ∨ s + 1 + k = 0 then s + 1 + k + 1 else wr_n m (s + 1 + k)) = s + 1
    have h3 : m / 10 ^ (s + 1 + k) = 0 := by rw [Nat.pow_add, ← Nat.div_div_eq_div_mul, h1, Nat.zero_div]
    rw [if_neg (by rw [h3]; omega)]
    exact ih
def dI (r : Nat) : Int32 := nI r - 1
theorem dI_s {r : Nat} : dI (r + 1) = nI r := by
  unfold dI
  rw [nI_succ]
  exact Int32.add_sub_cancel _ _
theorem dI_d {r : Nat} : nI r + (-1) = dI r := by
  unfold dI
  rw [Int32.sub_eq_add_neg]
theorem d_Wr_writeInteger_0 : decode b_Wr_writeInteger 0 = .ok (.lload_n 1, 1) := by decide +kernel
theorem d_Wr_writeInteger_1 : decode b_Wr_writeInteger 1 = .ok (.lconst 0, 1) := by decide +kernel
theorem d_Wr_writeInteger_2 : decode b_Wr_writeInteger 2 = .ok (.lcmp, 1) := by decide +kernel
theorem d_Wr_writeInteger_3 : decode b_Wr_writeInteger 3 = .ok (.ifCond .ge 9, 3) := by decide +kernel
theorem d_Wr_writeInteger_6 : decode b_Wr_writeInteger 6 = .ok (.aload_n 0, 1) := by decide +kernel
theorem d_Wr_writeInteger_7 : decode b_Wr_writeInteger 7 = .ok (.bipush 45, 2) := by decide +kernel
theorem d_Wr_writeInteger_9 : decode b_Wr_writeInteger 9 = .ok (.invokevirtual 58, 3) := by decide +kernel
theorem d_Wr_writeInteger_12 : decode b_Wr_writeInteger 12 = .ok (.iconst 0, 1) := by decide +kernel
theorem d_Wr_writeInteger_13 : decode b_Wr_writeInteger 13 = .ok (.istore_n 3, 1) := by decide +kernel
theorem d_Wr_writeInteger_14 : decode b_Wr_writeInteger 14 = .ok (.lload_n 1, 1) := by decide +kernel
theorem d_Wr_writeInteger_15 : decode b_Wr_writeInteger 15 = .ok (.lstore 4, 2) := by decide +kernel
theorem d_Wr_writeInteger_17 : decode b_Wr_writeInteger 17 = .ok (.aload_n 0, 1) := by decide +kernel
theorem d_Wr_writeInteger_18 : decode b_Wr_writeInteger 18 = .ok (.getfield 9, 3) := by decide +kernel
theorem d_Wr_writeInteger_21 : decode b_Wr_writeInteger 21 = .ok (.iload_n 3, 1) := by decide +kernel
theorem d_Wr_writeInteger_22 : decode b_Wr_writeInteger 22 = .ok (.bipush 48, 2) := by decide +kernel
theorem d_Wr_writeInteger_24 : decode b_Wr_writeInteger 24 = .ok (.lload 4, 2) := by decide +kernel
theorem d_Wr_writeInteger_26 : decode b_Wr_writeInteger 26 = .ok (.ldc2_w 72, 3) := by decide +kernel
theorem d_Wr_writeInteger_29 : decode b_Wr_writeInteger 29 = .ok (.lrem, 1) := by decide +kernel
theorem d_Wr_writeInteger_30 : decode b_Wr_writeInteger 30 = .ok (.l2i, 1) := by decide +kernel
theorem d_Wr_writeInteger_31 : decode b_Wr_writeInteger 31 = .ok (.invokestatic 74, 3) := by decide +kernel
theorem d_Wr_writeInteger_34 : decode b_Wr_writeInteger 34 = .ok (.iadd, 1) := by decide +kernel
theorem d_Wr_writeInteger_35 : decode b_Wr_writeInteger 35 = .ok (.i2c, 1) := by decide +kernel
theorem d_Wr_writeInteger_36 : decode b_Wr_writeInteger 36 = .ok (.castore, 1) := by decide +kernel
theorem d_Wr_writeInteger_37 : decode b_Wr_writeInteger 37 = .ok (.iinc 3 1, 3) := by decide +kernel
theorem d_Wr_writeInteger_40 : decode b_Wr_writeInteger 40 = .ok (.lload 4, 2) := by decide +kernel
theorem d_Wr_writeInteger_42 : decode b_Wr_writeInteger 42 = .ok (.ldc2_w 72, 3) := by decide +kernel
theorem d_Wr_writeInteger_45 : decode b_Wr_writeInteger 45 = .ok (.ldiv, 1) := by decide +kernel
theorem d_Wr_writeInteger_46 : decode b_Wr_writeInteger 46 = .ok (.lstore 4, 2) := by decide +kernel
theorem d_Wr_writeInteger_48 : decode b_Wr_writeInteger 48 = .ok (.lload 4, 2) := by decide +kernel
theorem d_Wr_writeInteger_50 : decode b_Wr_writeInteger 50 = .ok (.lconst 0, 1) := by decide +kernel
theorem d_Wr_writeInteger_51 : decode b_Wr_writeInteger 51 = .ok (.lcmp, 1) := by decide +kernel
theorem d_Wr_writeInteger_52 : decode b_Wr_writeInteger 52 = .ok (.ifCond .eq 9, 3) := by decide +kernel
theorem d_Wr_writeInteger_55 : decode b_Wr_writeInteger 55 = .ok (.iload_n 3, 1) := by decide +kernel
theorem d_Wr_writeInteger_56 : decode b_Wr_writeInteger 56 = .ok (.bipush 19, 2) := by decide +kernel
theorem d_Wr_writeInteger_58 : decode b_Wr_writeInteger 58 = .ok (.if_icmp .lt (-41), 3) := by decide +kernel
theorem d_Wr_writeInteger_61 : decode b_Wr_writeInteger 61 = .ok (.iload_n 3, 1) := by decide +kernel
theorem d_Wr_writeInteger_62 : decode b_Wr_writeInteger 62 = .ok (.iconst 1, 1) := by decide +kernel
theorem d_Wr_writeInteger_63 : decode b_Wr_writeInteger 63 = .ok (.isub, 1) := by decide +kernel
theorem d_Wr_writeInteger_64 : decode b_Wr_writeInteger 64 = .ok (.istore 6, 2) := by decide +kernel
theorem d_Wr_writeInteger_66 : decode b_Wr_writeInteger 66 = .ok (.iload 6, 2) := by decide +kernel
theorem d_Wr_writeInteger_68 : decode b_Wr_writeInteger 68 = .ok (.ifCond .lt 20, 3) := by decide +kernel
theorem d_Wr_writeInteger_71 : decode b_Wr_writeInteger 71 = .ok (.aload_n 0, 1) := by decide +kernel
theorem d_Wr_writeInteger_72 : decode b_Wr_writeInteger 72 = .ok (.aload_n 0, 1) := by decide +kernel
theorem d_Wr_writeInteger_73 : decode b_Wr_writeInteger 73 = .ok (.getfield 9, 3) := by decide +kernel
theorem d_Wr_writeInteger_76 : decode b_Wr_writeInteger 76 = .ok (.iload 6, 2) := by decide +kernel
theorem d_Wr_writeInteger_78 : decode b_Wr_writeInteger 78 = .ok (.caload, 1) := by decide +kernel
theorem d_Wr_writeInteger_79 : decode b_Wr_writeInteger 79 = .ok (.invokevirtual 58, 3) := by decide +kernel
theorem d_Wr_writeInteger_82 : decode b_Wr_writeInteger 82 = .ok (.iinc 6 (-1), 3) := by decide +kernel
theorem d_Wr_writeInteger_85 : decode b_Wr_writeInteger 85 = .ok (.goto (-19), 3) := by decide +kernel
theorem d_Wr_writeInteger_88 : decode b_Wr_writeInteger 88 = .ok (.return_, 1) := by decide +kernel
theorem kl_Wr_72 : Cond.constantLong R_Wr 72 10 ∈ g_tbl := g_in 907 (by decide +kernel) (by decide +kernel)
set_option maxHeartbeats 4000000 in
set_option maxRecDepth 100000 in
theorem c_Wr_writeInteger (l : Launch) (E : gh_E) (sz : Nat) (f : gh_F) (a dg : Nat) (wt : Int32) (st : Nat × Int32) (x : Int64) (hw : wS E f a dg wt st) : gh_M l y_Wr_writeInteger b_Wr_writeInteger 7 none E sz [.ref a, .long x] f { frames := 4, cells := 0, slots := 0, locals := 80 } (fun r g => r = none ∧ wS E g a dg wt (wr_l wt st (wr_i x)) ∧ gh_fr f g (wM a dg)) := by
  refine gh_open (by decide) (Nat.le_of_ble_eq_true rfl) ?_
  intro p e s m args below meth c A ls hAe C V hr hlocks hname hl
  have hx := C.1
  have hb := C.2.1
  have hl : lv_has ls 7 [(0, .ref a), (1, .long x)] := hl
  have hfr : gh_fr f f (wM a dg) := gh_fr.rf
  have hm19 : x.toInt.natAbs / 10 ^ 19 = 0 := by have hx9 := l_rng x; exact Nat.div_eq_of_lt (by omega)
  have hnad : dg ≠ a := by obtain ⟨h1, h2, h3⟩ := hw; exact gh_nek h3 h1 (show (100 : Nat) ≠ 8 by decide)
  refine lv_lload_n hx hb d_Wr_writeInteger_0 rfl (lv_at hl 1 rfl) ?_
  refine lv_lconst (v := 0) hx hb d_Wr_writeInteger_1 (by decide) ?_
  refine W.lcmp hx hb d_Wr_writeInteger_2 ?_
  by_cases hneg : x < 0
  · refine lv_if_ge (tgt := 12) hx hb d_Wr_writeInteger_3 (by decide) (fun c1 => absurd c1 (fun z => lg_ge0 z (lg_lt.mpr hneg))) (fun c1 => ?_)
    refine lv_aload_n hx hb d_Wr_writeInteger_6 rfl (lv_at hl 0 rfl) ?_
    refine lv_bipush (v := 45) hx hb d_Wr_writeInteger_7 (by decide) ?_
    refine gh_callV C V hl.1 m_Wr_writeSign l_Wr_58 (c_Wr_writeSign l E _ _ a dg wt _ (45) ⟨45, by decide, rfl⟩ hw) rfl hw.1 gc_Wr ⟨by first | decide | omega | (dsimp only; omega), by first | decide | omega | (dsimp only; omega)⟩ ⟨by first | decide | omega | (dsimp only; omega), by first | decide | omega | (dsimp only; omega)⟩ (Nat.le_of_ble_eq_true rfl) rfl d_Wr_writeInteger_9 (fun r fw1 H locs hp9 V1 => ?_)
    obtain ⟨rfl, hw2, hfr2⟩ := hp9
    have V := V1
    refine W.eq (g2 := F0 m 12 ls []) rfl ?_
    have hfr := wM.tr hfr (hfr2.wide (fun b hb => Or.inl hb))
    have hw : wS E fw1 a dg wt (wr_l wt st (([]) ++ [45])) := by rw [wr_l_snoc]; exact hw2
    refine lv_iconst (v := 0) hx hb d_Wr_writeInteger_12 (by decide) ?_
    refine lv_istore_n hx hb d_Wr_writeInteger_13 rfl hl (by decide) rfl (fun ls hl => ?_)
    have hl : lv_has ls 7 [(3, .int 0), (0, .ref a), (1, .long x)] := hl
    refine lv_lload_n hx hb d_Wr_writeInteger_14 rfl (lv_at hl 2 rfl) ?_
    refine lv_lstore hx hb d_Wr_writeInteger_15 hl (by decide) rfl (fun ls hl => ?_)
    have hl : lv_has ls 7 [(4, .long x), (3, .int 0), (0, .ref a), (1, .long x)] := hl
    have hl : lv_has ls 7 [(3, .int 0), (4, .long x), (0, .ref a), (1, .long x)] := lv_sub hl [1, 0, 2, 3] rfl
    have hl : lv_has ls 7 [(3, .int (nI 0)), (4, .long x), (0, .ref a), (1, .long x)] := hl
    obtain ⟨hwa, h0, hwd⟩ := hw
    have loop2 : ∀ (r9 : Nat) (T9 : List Int32) (h : Nat → Int32) (f1 : gh_F) (H : Heap) (locs : List Loc) (ls : Array Slot), r9 ≤ 19 → T9 ++ wr_d x.toInt.natAbs r9 = wr_i x → (∀ j, j < r9 → h j = nI (48 + x.toInt.natAbs / 10 ^ j % 10)) → f1 dg = some (.inl (E.2.2.1 2, 19, .inl h)) → wS E f1 a dg wt (wr_l wt st T9) → gh_fr f f1 (wM a dg) → gh_V E A f1 s H locs → lv_has ls 7 [(6, .int (dI r9)), (0, .ref a)] → W p l e { frames := 4, cells := 0, slots := 0, locals := 80 } s m args below meth c H locs 0 0 (MQ below (gh_Q E f (fun r g => r = none ∧ wS E g a dg wt (wr_l wt st (wr_i x)) ∧ gh_fr f g (wM a dg))) args s 0 0 A) (F0 m 66 ls []) := by
      intro r9
      induction r9 with
      | zero =>
        intro T9 h f1 H locs ls hr19 hT hd hdd hw hfr V hl
        have hl : lv_has ls 7 [(6, .int ((-1))), (0, .ref a)] := hl
        have hT : T9 = wr_i x := by rw [← hT]; exact (List.append_nil T9).symm
        refine lv_iload hx hb d_Wr_writeInteger_66 (lv_at hl 0 rfl) ?_
        refine lv_if_lt (tgt := 88) hx hb d_Wr_writeInteger_68 (by decide) (fun c2 => ?_) (fun c2 => absurd (by decide) c2)
        refine gh_retv hAe C V hr hlocks d_Wr_writeInteger_88 (by first | decide | omega | (dsimp only; omega)) (by first | decide | omega | (dsimp only; omega)) ?_
        exact ⟨rfl, by rw [← hT]; exact hw, hfr⟩
      | succ r9 ih =>
        intro T9 h f1 H locs ls hr19 hT hd hdd hw hfr V hl
        have hl : lv_has ls 7 [(6, .int (nI r9)), (0, .ref a)] := by rw [dI_s] at hl; exact hl
        refine lv_iload hx hb d_Wr_writeInteger_66 (lv_at hl 0 rfl) ?_
        refine lv_if_lt (tgt := 88) hx hb d_Wr_writeInteger_68 (by decide) (fun c3 => absurd c3 (nI_pos (by omega))) (fun c3 => ?_)
        refine lv_aload_n hx hb d_Wr_writeInteger_71 rfl (lv_at hl 1 rfl) ?_
        refine lv_aload_n hx hb d_Wr_writeInteger_72 rfl (lv_at hl 1 rfl) ?_
        refine gh_get C V hw.1 gc_Wr gi_Wr 0 (by decide) f_Wr_9 rfl rfl d_Wr_writeInteger_73 ?_
        refine lv_iload hx hb d_Wr_writeInteger_76 (lv_at hl 0 rfl) ?_
        refine gn_cald (i := r9) C V hdd (by omega) (by omega) d_Wr_writeInteger_78 ?_
        rw [hd r9 (Nat.lt_succ_self r9)]
        have hmod : x.toInt.natAbs / 10 ^ r9 % 10 < 10 := Nat.mod_lt _ (by decide)
        refine gh_callV C V hl.1 m_Wr_writeSign l_Wr_58 (c_Wr_writeSign l E _ _ a dg wt _ (nI (48 + x.toInt.natAbs / 10 ^ r9 % 10)) ⟨_, by omega, rfl⟩ hw) rfl hw.1 gc_Wr ⟨by first | decide | omega | (dsimp only; omega), by first | decide | omega | (dsimp only; omega)⟩ ⟨by first | decide | omega | (dsimp only; omega), by first | decide | omega | (dsimp only; omega)⟩ (Nat.le_of_ble_eq_true rfl) rfl d_Wr_writeInteger_79 (fun r fw2 H locs hp9 V1 => ?_)
        obtain ⟨rfl, hw2, hfr2⟩ := hp9
        have V := V1
        refine W.eq (g2 := F0 m 82 ls []) rfl ?_
        have hfr := wM.tr hfr (hfr2.wide (fun b hb => Or.inl hb))
        have hw : wS E fw2 a dg wt (wr_l wt st (T9 ++ [nI (48 + x.toInt.natAbs / 10 ^ r9 % 10)])) := by rw [wr_l_snoc]; exact hw2
        have hdd2 := hfr2.at hdd (fun z => hnad z)
        refine lv_iinc (k := 0) (v := nI r9 + (-1)) hx hb d_Wr_writeInteger_82 hl rfl (by rfl) (by decide) rfl (fun ls hl => ?_)
        have hl : lv_has ls 7 [(6, .int (dI r9)), (0, .ref a)] := by rw [← dI_d]; exact hl
        refine lv_goto (tgt := 66) hx hb d_Wr_writeInteger_85 (by decide) ?_
        exact ih (T9 ++ [nI (48 + x.toInt.natAbs / 10 ^ r9 % 10)]) h _ _ _ ls (by omega) (by rw [← hT, List.append_assoc]; rfl) (fun j hj => hd j (by omega)) hdd2 hw hfr V hl
    have loop : ∀ (n9 s9 : Nat) (y9 : Int64) (h : Nat → Int32) (f1 : gh_F) (H : Heap) (locs : List Loc) (ls : Array Slot), s9 + n9 = 18 → y9.toInt.natAbs = x.toInt.natAbs / 10 ^ s9 → (s9 = 0 ∨ ¬ x.toInt.natAbs / 10 ^ s9 = 0) → (∀ j, j < s9 → h j = nI (48 + x.toInt.natAbs / 10 ^ j % 10)) → f1 dg = some (.inl (E.2.2.1 2, 19, .inl h)) → f1 a = some (.inr (8, [.ref dg, .int wt, .int (wr_l wt st [45]).2, .int (nI (wr_l wt st [45]).1)])) → gh_fr f f1 (wM a dg) → gh_V E A f1 s H locs → lv_has ls 7 [(3, .int (nI s9)), (4, .long y9), (0, .ref a), (1, .long x)] → W p l e { frames := 4, cells := 0, slots := 0, locals := 80 } s m args below meth c H locs 0 0 (MQ below (gh_Q E f (fun r g => r = none ∧ wS E g a dg wt (wr_l wt st (wr_i x)) ∧ gh_fr f g (wM a dg))) args s 0 0 A) (F0 m 17 ls []) := by
      intro n9
      induction n9 with
      | zero =>
        intro s9 y9 h f1 H locs ls hs hy hmin hd hdd hwa hfr V hl
        refine lv_aload_n hx hb d_Wr_writeInteger_17 rfl (lv_at hl 2 rfl) ?_
        refine gh_get C V hwa gc_Wr gi_Wr 0 (by decide) f_Wr_9 rfl rfl d_Wr_writeInteger_18 ?_
        refine lv_iload_n hx hb d_Wr_writeInteger_21 rfl (lv_at hl 0 rfl) ?_
        refine lv_bipush (v := 48) hx hb d_Wr_writeInteger_22 (by decide) ?_
        refine lv_lload hx hb d_Wr_writeInteger_24 (lv_at hl 1 rfl) ?_
        refine lv_ldc2 (v := 10) hx hb C.2.2.2.1 (C.2.2.2.2.1 _ kl_Wr_72) d_Wr_writeInteger_26 ?_
        refine lv_lrem hx hb d_Wr_writeInteger_29 (by decide) ?_
        refine lv_l2i hx hb d_Wr_writeInteger_30 rfl ?_
        refine gs_abs C hl.1 ⟨by decide, by decide⟩ (Nat.le_of_ble_eq_true rfl) ⟨by first | decide | omega | (dsimp only; omega), by first | decide | omega | (dsimp only; omega)⟩ d_Wr_writeInteger_31 ?_
        refine lv_iadd hx hb d_Wr_writeInteger_34 ?_
        refine lv_i2c hx hb d_Wr_writeInteger_35 dg_c ?_
        refine gn_cast (i := s9) C V hdd (by omega) (by decide) d_Wr_writeInteger_36 (fun H locs V => ?_)
        have hmod : y9.toInt.natAbs % 10 < 10 := Nat.mod_lt _ (by decide)
        rw [(show chr (nI (48 + y9.toInt.natAbs % 10)) from ⟨_, by omega, rfl⟩).vp] at V
        obtain ⟨f4, hff4⟩ : ∃ z9 : gh_F, z9 = gh_u f1 dg (.inl (E.2.2.1 2, 19, .inl (upd h s9 (nI (48 + y9.toInt.natAbs % 10))))) := ⟨_, rfl⟩
        have V : gh_V E A f4 s H locs := by rw [hff4]; exact V
        have h_a_f4 : f4 a = some (.inr (8, [.ref dg, .int wt, .int ((wr_l wt st [45]).2), .int (nI (wr_l wt st [45]).1)])) := by rw [hff4, gh_un (gh_nek hwa hdd (show (8 : Nat) ≠ 100 by decide))]; exact hwa
        have h_dg_f4 : f4 dg = some (.inl (E.2.2.1 2, 19, .inl (upd h s9 (nI (48 + y9.toInt.natAbs % 10))))) := by rw [hff4, gh_us]
        have hfr : gh_fr f f4 (wM a dg) := by rw [hff4]; exact hfr.put (Or.inl (Or.inr rfl))
        refine lv_iinc (k := 0) (v := (nI s9) + 1) hx hb d_Wr_writeInteger_37 hl rfl (by rfl) (by decide) rfl (fun ls hl => ?_)
        have hl : lv_has ls 7 [(3, .int (nI (s9 + 1))), (4, .long y9), (0, .ref a), (1, .long x)] := by rw [nI_succ]; exact hl
        refine lv_lload hx hb d_Wr_writeInteger_40 (lv_at hl 1 rfl) ?_
        refine lv_ldc2 (v := 10) hx hb C.2.2.2.1 (C.2.2.2.2.1 _ kl_Wr_72) d_Wr_writeInteger_42 ?_
        refine lv_ldiv hx hb d_Wr_writeInteger_45 (by decide) ?_
        refine lv_lstore hx hb d_Wr_writeInteger_46 hl (by decide) rfl (fun ls hl => ?_)
        have hl : lv_has ls 7 [(4, .long (y9 / 10)), (3, .int (nI (s9 + 1))), (0, .ref a), (1, .long x)] := hl
        have hy2 := dg_q hy
        have hd2 : ∀ j, j < s9 + 1 → upd h s9 (nI (48 + y9.toInt.natAbs % 10)) j = nI (48 + x.toInt.natAbs / 10 ^ j % 10) := fun j hj => by
          simp only [upd]
          by_cases hj9 : j = s9
          · rw [if_pos hj9, hj9, hy]
          · rw [if_neg hj9]; exact hd j (by omega)
        have hz : x.toInt.natAbs / 10 ^ (s9 + 1) = 0 := by rw [show s9 + 1 = 19 by omega]; exact hm19
        refine lv_lload hx hb d_Wr_writeInteger_48 (lv_at hl 0 rfl) ?_
        refine lv_lconst (v := 0) hx hb d_Wr_writeInteger_50 (by decide) ?_
        refine W.lcmp hx hb d_Wr_writeInteger_51 ?_
        refine lv_if_eq (tgt := 61) hx hb d_Wr_writeInteger_52 (by decide) (fun c5 => ?_) (fun c5 => absurd ((lg_eq).mpr (dg_0.mpr (hy2.trans hz))) c5)
        have hn19 : wr_n x.toInt.natAbs 19 = s9 + 1 := by have h9 := wr_n_s hz hmin (18 - s9); rw [show s9 + 1 + (18 - s9) = 19 by omega] at h9; exact h9
        refine lv_iload_n hx hb d_Wr_writeInteger_61 rfl (lv_at hl 1 rfl) ?_
        refine lv_iconst (v := 1) hx hb d_Wr_writeInteger_62 (by decide) ?_
        refine gn_isub (a := s9 + 1) (b := 1) hx hb (by omega) d_Wr_writeInteger_63 ?_
        refine W.eq (g2 := F0 m 64 ls [.int (dI (s9 + 1))]) (by rw [dI_s]; rfl) ?_
        refine lv_istore hx hb d_Wr_writeInteger_64 hl (by decide) rfl (fun ls hl => ?_)
        have hl : lv_has ls 7 [(6, .int (dI (s9 + 1))), (4, .long (y9 / 10)), (3, .int (nI (s9 + 1))), (0, .ref a), (1, .long x)] := hl
        have hl : lv_has ls 7 [(6, .int (dI (s9 + 1))), (0, .ref a)] := lv_sub hl [0, 3] rfl
        exact loop2 (s9 + 1) [45] _ _ _ _ ls (by omega) (by unfold wr_i; rw [hn19]; rw [if_pos hneg]) hd2 h_dg_f4 ⟨h_a_f4, _, h_dg_f4⟩ hfr V hl
      | succ n9 ih =>
        intro s9 y9 h f1 H locs ls hs hy hmin hd hdd hwa hfr V hl
        refine lv_aload_n hx hb d_Wr_writeInteger_17 rfl (lv_at hl 2 rfl) ?_
        refine gh_get C V hwa gc_Wr gi_Wr 0 (by decide) f_Wr_9 rfl rfl d_Wr_writeInteger_18 ?_
        refine lv_iload_n hx hb d_Wr_writeInteger_21 rfl (lv_at hl 0 rfl) ?_
        refine lv_bipush (v := 48) hx hb d_Wr_writeInteger_22 (by decide) ?_
        refine lv_lload hx hb d_Wr_writeInteger_24 (lv_at hl 1 rfl) ?_
        refine lv_ldc2 (v := 10) hx hb C.2.2.2.1 (C.2.2.2.2.1 _ kl_Wr_72) d_Wr_writeInteger_26 ?_
        refine lv_lrem hx hb d_Wr_writeInteger_29 (by decide) ?_
        refine lv_l2i hx hb d_Wr_writeInteger_30 rfl ?_
        refine gs_abs C hl.1 ⟨by decide, by decide⟩ (Nat.le_of_ble_eq_true rfl) ⟨by first | decide | omega | (dsimp only; omega), by first | decide | omega | (dsimp only; omega)⟩ d_Wr_writeInteger_31 ?_
        refine lv_iadd hx hb d_Wr_writeInteger_34 ?_
        refine lv_i2c hx hb d_Wr_writeInteger_35 dg_c ?_
        refine gn_cast (i := s9) C V hdd (by omega) (by decide) d_Wr_writeInteger_36 (fun H locs V => ?_)
        have hmod : y9.toInt.natAbs % 10 < 10 := Nat.mod_lt _ (by decide)
        rw [(show chr (nI (48 + y9.toInt.natAbs % 10)) from ⟨_, by omega, rfl⟩).vp] at V
        obtain ⟨f6, hff6⟩ : ∃ z9 : gh_F, z9 = gh_u f1 dg (.inl (E.2.2.1 2, 19, .inl (upd h s9 (nI (48 + y9.toInt.natAbs % 10))))) := ⟨_, rfl⟩
        have V : gh_V E A f6 s H locs := by rw [hff6]; exact V
        have h_a_f6 : f6 a = some (.inr (8, [.ref dg, .int wt, .int ((wr_l wt st [45]).2), .int (nI (wr_l wt st [45]).1)])) := by rw [hff6, gh_un (gh_nek hwa hdd (show (8 : Nat) ≠ 100 by decide))]; exact hwa
        have h_dg_f6 : f6 dg = some (.inl (E.2.2.1 2, 19, .inl (upd h s9 (nI (48 + y9.toInt.natAbs % 10))))) := by rw [hff6, gh_us]
        have hfr : gh_fr f f6 (wM a dg) := by rw [hff6]; exact hfr.put (Or.inl (Or.inr rfl))
        refine lv_iinc (k := 0) (v := (nI s9) + 1) hx hb d_Wr_writeInteger_37 hl rfl (by rfl) (by decide) rfl (fun ls hl => ?_)
        have hl : lv_has ls 7 [(3, .int (nI (s9 + 1))), (4, .long y9), (0, .ref a), (1, .long x)] := by rw [nI_succ]; exact hl
        refine lv_lload hx hb d_Wr_writeInteger_40 (lv_at hl 1 rfl) ?_
        refine lv_ldc2 (v := 10) hx hb C.2.2.2.1 (C.2.2.2.2.1 _ kl_Wr_72) d_Wr_writeInteger_42 ?_
        refine lv_ldiv hx hb d_Wr_writeInteger_45 (by decide) ?_
        refine lv_lstore hx hb d_Wr_writeInteger_46 hl (by decide) rfl (fun ls hl => ?_)
        have hl : lv_has ls 7 [(4, .long (y9 / 10)), (3, .int (nI (s9 + 1))), (0, .ref a), (1, .long x)] := hl
        have hy2 := dg_q hy
        have hd2 : ∀ j, j < s9 + 1 → upd h s9 (nI (48 + y9.toInt.natAbs % 10)) j = nI (48 + x.toInt.natAbs / 10 ^ j % 10) := fun j hj => by
          simp only [upd]
          by_cases hj9 : j = s9
          · rw [if_pos hj9, hj9, hy]
          · rw [if_neg hj9]; exact hd j (by omega)
        by_cases hz : x.toInt.natAbs / 10 ^ (s9 + 1) = 0
        · refine lv_lload hx hb d_Wr_writeInteger_48 (lv_at hl 0 rfl) ?_
          refine lv_lconst (v := 0) hx hb d_Wr_writeInteger_50 (by decide) ?_
          refine W.lcmp hx hb d_Wr_writeInteger_51 ?_
          refine lv_if_eq (tgt := 61) hx hb d_Wr_writeInteger_52 (by decide) (fun c7 => ?_) (fun c7 => absurd ((lg_eq).mpr (dg_0.mpr (hy2.trans hz))) c7)
          have hn19 : wr_n x.toInt.natAbs 19 = s9 + 1 := by have h9 := wr_n_s hz hmin (18 - s9); rw [show s9 + 1 + (18 - s9) = 19 by omega] at h9; exact h9
          refine lv_iload_n hx hb d_Wr_writeInteger_61 rfl (lv_at hl 1 rfl) ?_
          refine lv_iconst (v := 1) hx hb d_Wr_writeInteger_62 (by decide) ?_
          refine gn_isub (a := s9 + 1) (b := 1) hx hb (by omega) d_Wr_writeInteger_63 ?_
          refine W.eq (g2 := F0 m 64 ls [.int (dI (s9 + 1))]) (by rw [dI_s]; rfl) ?_
          refine lv_istore hx hb d_Wr_writeInteger_64 hl (by decide) rfl (fun ls hl => ?_)
          have hl : lv_has ls 7 [(6, .int (dI (s9 + 1))), (4, .long (y9 / 10)), (3, .int (nI (s9 + 1))), (0, .ref a), (1, .long x)] := hl
          have hl : lv_has ls 7 [(6, .int (dI (s9 + 1))), (0, .ref a)] := lv_sub hl [0, 3] rfl
          exact loop2 (s9 + 1) [45] _ _ _ _ ls (by omega) (by unfold wr_i; rw [hn19]; rw [if_pos hneg]) hd2 h_dg_f6 ⟨h_a_f6, _, h_dg_f6⟩ hfr V hl
        · refine lv_lload hx hb d_Wr_writeInteger_48 (lv_at hl 0 rfl) ?_
          refine lv_lconst (v := 0) hx hb d_Wr_writeInteger_50 (by decide) ?_
          refine W.lcmp hx hb d_Wr_writeInteger_51 ?_
          refine lv_if_eq (tgt := 61) hx hb d_Wr_writeInteger_52 (by decide) (fun c8 => absurd c8 (fun z => hz (hy2.symm.trans (dg_0.mp ((lg_eq).mp z))))) (fun c8 => ?_)
          refine lv_iload_n hx hb d_Wr_writeInteger_55 rfl (lv_at hl 1 rfl) ?_
          refine lv_bipush (v := 19) hx hb d_Wr_writeInteger_56 (by decide) ?_
          refine lv_icmp_lt (tgt := 17) hx hb d_Wr_writeInteger_58 (by decide) (fun c9 => ?_) (fun c9 => absurd (nI_lt (a := s9 + 1) (b := 19) (by omega) (by decide)) c9)
          have hl : lv_has ls 7 [(3, .int (nI (s9 + 1))), (4, .long (y9 / 10)), (0, .ref a), (1, .long x)] := lv_sub hl [1, 0, 2, 3] rfl
          have hl : lv_has ls 7 [(3, .int (nI (s9 + 1))), (4, .long (y9 / 10)), (0, .ref a), (1, .long x)] := hl
          exact ih (s9 + 1) (y9 / 10) _ _ _ _ ls (by omega) hy2 (Or.inr hz) hd2 h_dg_f6 h_a_f6 hfr V hl
    exact loop 18 0 x h0 _ _ _ ls (by omega) (by rw [Nat.pow_zero, Nat.div_one]) (Or.inl rfl) (fun j hj => absurd hj (Nat.not_lt_zero j)) hwd hwa hfr V hl
  · refine lv_if_ge (tgt := 12) hx hb d_Wr_writeInteger_3 (by decide) (fun c10 => ?_) (fun c10 => absurd (Int32.not_lt.mp (fun z => hneg (lg_lt.mp z))) c10)
    have hw : wS E f a dg wt (wr_l wt st []) := hw
    refine lv_iconst (v := 0) hx hb d_Wr_writeInteger_12 (by decide) ?_
    refine lv_istore_n hx hb d_Wr_writeInteger_13 rfl hl (by decide) rfl (fun ls hl => ?_)
    have hl : lv_has ls 7 [(3, .int 0), (0, .ref a), (1, .long x)] := hl
    refine lv_lload_n hx hb d_Wr_writeInteger_14 rfl (lv_at hl 2 rfl) ?_
    refine lv_lstore hx hb d_Wr_writeInteger_15 hl (by decide) rfl (fun ls hl => ?_)
    have hl : lv_has ls 7 [(4, .long x), (3, .int 0), (0, .ref a), (1, .long x)] := hl
    have hl : lv_has ls 7 [(3, .int 0), (4, .long x), (0, .ref a), (1, .long x)] := lv_sub hl [1, 0, 2, 3] rfl
    have hl : lv_has ls 7 [(3, .int (nI 0)), (4, .long x), (0, .ref a), (1, .long x)] := hl
    obtain ⟨hwa, h0, hwd⟩ := hw
    have loop2 : ∀ (r9 : Nat) (T9 : List Int32) (h : Nat → Int32) (f1 : gh_F) (H : Heap) (locs : List Loc) (ls : Array Slot), r9 ≤ 19 → T9 ++ wr_d x.toInt.natAbs r9 = wr_i x → (∀ j, j < r9 → h j = nI (48 + x.toInt.natAbs / 10 ^ j % 10)) → f1 dg = some (.inl (E.2.2.1 2, 19, .inl h)) → wS E f1 a dg wt (wr_l wt st T9) → gh_fr f f1 (wM a dg) → gh_V E A f1 s H locs → lv_has ls 7 [(6, .int (dI r9)), (0, .ref a)] → W p l e { frames := 4, cells := 0, slots := 0, locals := 80 } s m args below meth c H locs 0 0 (MQ below (gh_Q E f (fun r g => r = none ∧ wS E g a dg wt (wr_l wt st (wr_i x)) ∧ gh_fr f g (wM a dg))) args s 0 0 A) (F0 m 66 ls []) := by
      intro r9
      induction r9 with
      | zero =>
        intro T9 h f1 H locs ls hr19 hT hd hdd hw hfr V hl
        have hl : lv_has ls 7 [(6, .int ((-1))), (0, .ref a)] := hl
        have hT : T9 = wr_i x := by rw [← hT]; exact (List.append_nil T9).symm
        refine lv_iload hx hb d_Wr_writeInteger_66 (lv_at hl 0 rfl) ?_
        refine lv_if_lt (tgt := 88) hx hb d_Wr_writeInteger_68 (by decide) (fun c11 => ?_) (fun c11 => absurd (by decide) c11)
        refine gh_retv hAe C V hr hlocks d_Wr_writeInteger_88 (by first | decide | omega | (dsimp only; omega)) (by first | decide | omega | (dsimp only; omega)) ?_
        exact ⟨rfl, by rw [← hT]; exact hw, hfr⟩
      | succ r9 ih =>
        intro T9 h f1 H locs ls hr19 hT hd hdd hw hfr V hl
        have hl : lv_has ls 7 [(6, .int (nI r9)), (0, .ref a)] := by rw [dI_s] at hl; exact hl
        refine lv_iload hx hb d_Wr_writeInteger_66 (lv_at hl 0 rfl) ?_
        refine lv_if_lt (tgt := 88) hx hb d_Wr_writeInteger_68 (by decide) (fun c12 => absurd c12 (nI_pos (by omega))) (fun c12 => ?_)
        refine lv_aload_n hx hb d_Wr_writeInteger_71 rfl (lv_at hl 1 rfl) ?_
        refine lv_aload_n hx hb d_Wr_writeInteger_72 rfl (lv_at hl 1 rfl) ?_
        refine gh_get C V hw.1 gc_Wr gi_Wr 0 (by decide) f_Wr_9 rfl rfl d_Wr_writeInteger_73 ?_
        refine lv_iload hx hb d_Wr_writeInteger_76 (lv_at hl 0 rfl) ?_
        refine gn_cald (i := r9) C V hdd (by omega) (by omega) d_Wr_writeInteger_78 ?_
        rw [hd r9 (Nat.lt_succ_self r9)]
        have hmod : x.toInt.natAbs / 10 ^ r9 % 10 < 10 := Nat.mod_lt _ (by decide)
        refine gh_callV C V hl.1 m_Wr_writeSign l_Wr_58 (c_Wr_writeSign l E _ _ a dg wt _ (nI (48 + x.toInt.natAbs / 10 ^ r9 % 10)) ⟨_, by omega, rfl⟩ hw) rfl hw.1 gc_Wr ⟨by first | decide | omega | (dsimp only; omega), by first | decide | omega | (dsimp only; omega)⟩ ⟨by first | decide | omega | (dsimp only; omega), by first | decide | omega | (dsimp only; omega)⟩ (Nat.le_of_ble_eq_true rfl) rfl d_Wr_writeInteger_79 (fun r fw3 H locs hp9 V1 => ?_)
        obtain ⟨rfl, hw2, hfr2⟩ := hp9
        have V := V1
        refine W.eq (g2 := F0 m 82 ls []) rfl ?_
        have hfr := wM.tr hfr (hfr2.wide (fun b hb => Or.inl hb))
        have hw : wS E fw3 a dg wt (wr_l wt st (T9 ++ [nI (48 + x.toInt.natAbs / 10 ^ r9 % 10)])) := by rw [wr_l_snoc]; exact hw2
        have hdd2 := hfr2.at hdd (fun z => hnad z)
        refine lv_iinc (k := 0) (v := nI r9 + (-1)) hx hb d_Wr_writeInteger_82 hl rfl (by rfl) (by decide) rfl (fun ls hl => ?_)
        have hl : lv_has ls 7 [(6, .int (dI r9)), (0, .ref a)] := by rw [← dI_d]; exact hl
        refine lv_goto (tgt := 66) hx hb d_Wr_writeInteger_85 (by decide) ?_
        exact ih (T9 ++ [nI (48 + x.toInt.natAbs / 10 ^ r9 % 10)]) h _ _ _ ls (by omega) (by rw [← hT, List.append_assoc]; rfl) (fun j hj => hd j (by omega)) hdd2 hw hfr V hl
    have loop : ∀ (n9 s9 : Nat) (y9 : Int64) (h : Nat → Int32) (f1 : gh_F) (H : Heap) (locs : List Loc) (ls : Array Slot), s9 + n9 = 18 → y9.toInt.natAbs = x.toInt.natAbs / 10 ^ s9 → (s9 = 0 ∨ ¬ x.toInt.natAbs / 10 ^ s9 = 0) → (∀ j, j < s9 → h j = nI (48 + x.toInt.natAbs / 10 ^ j % 10)) → f1 dg = some (.inl (E.2.2.1 2, 19, .inl h)) → f1 a = some (.inr (8, [.ref dg, .int wt, .int (wr_l wt st []).2, .int (nI (wr_l wt st []).1)])) → gh_fr f f1 (wM a dg) → gh_V E A f1 s H locs → lv_has ls 7 [(3, .int (nI s9)), (4, .long y9), (0, .ref a), (1, .long x)] → W p l e { frames := 4, cells := 0, slots := 0, locals := 80 } s m args below meth c H locs 0 0 (MQ below (gh_Q E f (fun r g => r = none ∧ wS E g a dg wt (wr_l wt st (wr_i x)) ∧ gh_fr f g (wM a dg))) args s 0 0 A) (F0 m 17 ls []) := by
      intro n9
      induction n9 with
      | zero =>
        intro s9 y9 h f1 H locs ls hs hy hmin hd hdd hwa hfr V hl
        refine lv_aload_n hx hb d_Wr_writeInteger_17 rfl (lv_at hl 2 rfl) ?_
        refine gh_get C V hwa gc_Wr gi_Wr 0 (by decide) f_Wr_9 rfl rfl d_Wr_writeInteger_18 ?_
        refine lv_iload_n hx hb d_Wr_writeInteger_21 rfl (lv_at hl 0 rfl) ?_
        refine lv_bipush (v := 48) hx hb d_Wr_writeInteger_22 (by decide) ?_
        refine lv_lload hx hb d_Wr_writeInteger_24 (lv_at hl 1 rfl) ?_
        refine lv_ldc2 (v := 10) hx hb C.2.2.2.1 (C.2.2.2.2.1 _ kl_Wr_72) d_Wr_writeInteger_26 ?_
        refine lv_lrem hx hb d_Wr_writeInteger_29 (by decide) ?_
        refine lv_l2i hx hb d_Wr_writeInteger_30 rfl ?_
        refine gs_abs C hl.1 ⟨by decide, by decide⟩ (Nat.le_of_ble_eq_true rfl) ⟨by first | decide | omega | (dsimp only; omega), by first | decide | omega | (dsimp only; omega)⟩ d_Wr_writeInteger_31 ?_
        refine lv_iadd hx hb d_Wr_writeInteger_34 ?_
        refine lv_i2c hx hb d_Wr_writeInteger_35 dg_c ?_
        refine gn_cast (i := s9) C V hdd (by omega) (by decide) d_Wr_writeInteger_36 (fun H locs V => ?_)
        have hmod : y9.toInt.natAbs % 10 < 10 := Nat.mod_lt _ (by decide)
        rw [(show chr (nI (48 + y9.toInt.natAbs % 10)) from ⟨_, by omega, rfl⟩).vp] at V
        obtain ⟨f13, hff13⟩ : ∃ z9 : gh_F, z9 = gh_u f1 dg (.inl (E.2.2.1 2, 19, .inl (upd h s9 (nI (48 + y9.toInt.natAbs % 10))))) := ⟨_, rfl⟩
        have V : gh_V E A f13 s H locs := by rw [hff13]; exact V
        have h_a_f13 : f13 a = some (.inr (8, [.ref dg, .int wt, .int ((wr_l wt st []).2), .int (nI (wr_l wt st []).1)])) := by rw [hff13, gh_un (gh_nek hwa hdd (show (8 : Nat) ≠ 100 by decide))]; exact hwa
        have h_dg_f13 : f13 dg = some (.inl (E.2.2.1 2, 19, .inl (upd h s9 (nI (48 + y9.toInt.natAbs % 10))))) := by rw [hff13, gh_us]
        have hfr : gh_fr f f13 (wM a dg) := by rw [hff13]; exact hfr.put (Or.inl (Or.inr rfl))
        refine lv_iinc (k := 0) (v := (nI s9) + 1) hx hb d_Wr_writeInteger_37 hl rfl (by rfl) (by decide) rfl (fun ls hl => ?_)
        have hl : lv_has ls 7 [(3, .int (nI (s9 + 1))), (4, .long y9), (0, .ref a), (1, .long x)] := by rw [nI_succ]; exact hl
        refine lv_lload hx hb d_Wr_writeInteger_40 (lv_at hl 1 rfl) ?_
        refine lv_ldc2 (v := 10) hx hb C.2.2.2.1 (C.2.2.2.2.1 _ kl_Wr_72) d_Wr_writeInteger_42 ?_
        refine lv_ldiv hx hb d_Wr_writeInteger_45 (by decide) ?_
        refine lv_lstore hx hb d_Wr_writeInteger_46 hl (by decide) rfl (fun ls hl => ?_)
        have hl : lv_has ls 7 [(4, .long (y9 / 10)), (3, .int (nI (s9 + 1))), (0, .ref a), (1, .long x)] := hl
        have hy2 := dg_q hy
        have hd2 : ∀ j, j < s9 + 1 → upd h s9 (nI (48 + y9.toInt.natAbs % 10)) j = nI (48 + x.toInt.natAbs / 10 ^ j % 10) := fun j hj => by
          simp only [upd]
          by_cases hj9 : j = s9
          · rw [if_pos hj9, hj9, hy]
          · rw [if_neg hj9]; exact hd j (by omega)
        have hz : x.toInt.natAbs / 10 ^ (s9 + 1) = 0 := by rw [show s9 + 1 = 19 by omega]; exact hm19
        refine lv_lload hx hb d_Wr_writeInteger_48 (lv_at hl 0 rfl) ?_
        refine lv_lconst (v := 0) hx hb d_Wr_writeInteger_50 (by decide) ?_
        refine W.lcmp hx hb d_Wr_writeInteger_51 ?_
        refine lv_if_eq (tgt := 61) hx hb d_Wr_writeInteger_52 (by decide) (fun c14 => ?_) (fun c14 => absurd ((lg_eq).mpr (dg_0.mpr (hy2.trans hz))) c14)
        have hn19 : wr_n x.toInt.natAbs 19 = s9 + 1 := by have h9 := wr_n_s hz hmin (18 - s9); rw [show s9 + 1 + (18 - s9) = 19 by omega] at h9; exact h9
        refine lv_iload_n hx hb d_Wr_writeInteger_61 rfl (lv_at hl 1 rfl) ?_
        refine lv_iconst (v := 1) hx hb d_Wr_writeInteger_62 (by decide) ?_
        refine gn_isub (a := s9 + 1) (b := 1) hx hb (by omega) d_Wr_writeInteger_63 ?_
        refine W.eq (g2 := F0 m 64 ls [.int (dI (s9 + 1))]) (by rw [dI_s]; rfl) ?_
        refine lv_istore hx hb d_Wr_writeInteger_64 hl (by decide) rfl (fun ls hl => ?_)
        have hl : lv_has ls 7 [(6, .int (dI (s9 + 1))), (4, .long (y9 / 10)), (3, .int (nI (s9 + 1))), (0, .ref a), (1, .long x)] := hl
        have hl : lv_has ls 7 [(6, .int (dI (s9 + 1))), (0, .ref a)] := lv_sub hl [0, 3] rfl
        exact loop2 (s9 + 1) [] _ _ _ _ ls (by omega) (by unfold wr_i; rw [hn19]; rw [if_neg hneg]) hd2 h_dg_f13 ⟨h_a_f13, _, h_dg_f13⟩ hfr V hl
      | succ n9 ih =>
        intro s9 y9 h f1 H locs ls hs hy hmin hd hdd hwa hfr V hl
        refine lv_aload_n hx hb d_Wr_writeInteger_17 rfl (lv_at hl 2 rfl) ?_
        refine gh_get C V hwa gc_Wr gi_Wr 0 (by decide) f_Wr_9 rfl rfl d_Wr_writeInteger_18 ?_
        refine lv_iload_n hx hb d_Wr_writeInteger_21 rfl (lv_at hl 0 rfl) ?_
        refine lv_bipush (v := 48) hx hb d_Wr_writeInteger_22 (by decide) ?_
        refine lv_lload hx hb d_Wr_writeInteger_24 (lv_at hl 1 rfl) ?_
        refine lv_ldc2 (v := 10) hx hb C.2.2.2.1 (C.2.2.2.2.1 _ kl_Wr_72) d_Wr_writeInteger_26 ?_
        refine lv_lrem hx hb d_Wr_writeInteger_29 (by decide) ?_
        refine lv_l2i hx hb d_Wr_writeInteger_30 rfl ?_
        refine gs_abs C hl.1 ⟨by decide, by decide⟩ (Nat.le_of_ble_eq_true rfl) ⟨by first | decide | omega | (dsimp only; omega), by first | decide | omega | (dsimp only; omega)⟩ d_Wr_writeInteger_31 ?_
        refine lv_iadd hx hb d_Wr_writeInteger_34 ?_
        refine lv_i2c hx hb d_Wr_writeInteger_35 dg_c ?_
        refine gn_cast (i := s9) C V hdd (by omega) (by decide) d_Wr_writeInteger_36 (fun H locs V => ?_)
        have hmod : y9.toInt.natAbs % 10 < 10 := Nat.mod_lt _ (by decide)
        rw [(show chr (nI (48 + y9.toInt.natAbs % 10)) from ⟨_, by omega, rfl⟩).vp] at V
        obtain ⟨f15, hff15⟩ : ∃ z9 : gh_F, z9 = gh_u f1 dg (.inl (E.2.2.1 2, 19, .inl (upd h s9 (nI (48 + y9.toInt.natAbs % 10))))) := ⟨_, rfl⟩
        have V : gh_V E A f15 s H locs := by rw [hff15]; exact V
        have h_a_f15 : f15 a = some (.inr (8, [.ref dg, .int wt, .int ((wr_l wt st []).2), .int (nI (wr_l wt st []).1)])) := by rw [hff15, gh_un (gh_nek hwa hdd (show (8 : Nat) ≠ 100 by decide))]; exact hwa
        have h_dg_f15 : f15 dg = some (.inl (E.2.2.1 2, 19, .inl (upd h s9 (nI (48 + y9.toInt.natAbs % 10))))) := by rw [hff15, gh_us]
        have hfr : gh_fr f f15 (wM a dg) := by rw [hff15]; exact hfr.put (Or.inl (Or.inr rfl))
        refine lv_iinc (k := 0) (v := (nI s9) + 1) hx hb d_Wr_writeInteger_37 hl rfl (by rfl) (by decide) rfl (fun ls hl => ?_)
        have hl : lv_has ls 7 [(3, .int (nI (s9 + 1))), (4, .long y9), (0, .ref a), (1, .long x)] := by rw [nI_succ]; exact hl
        refine lv_lload hx hb d_Wr_writeInteger_40 (lv_at hl 1 rfl) ?_
        refine lv_ldc2 (v := 10) hx hb C.2.2.2.1 (C.2.2.2.2.1 _ kl_Wr_72) d_Wr_writeInteger_42 ?_
        refine lv_ldiv hx hb d_Wr_writeInteger_45 (by decide) ?_
        refine lv_lstore hx hb d_Wr_writeInteger_46 hl (by decide) rfl (fun ls hl => ?_)
        have hl : lv_has ls 7 [(4, .long (y9 / 10)), (3, .int (nI (s9 + 1))), (0, .ref a), (1, .long x)] := hl
        have hy2 := dg_q hy
        have hd2 : ∀ j, j < s9 + 1 → upd h s9 (nI (48 + y9.toInt.natAbs % 10)) j = nI (48 + x.toInt.natAbs / 10 ^ j % 10) := fun j hj => by
          simp only [upd]
          by_cases hj9 : j = s9
          · rw [if_pos hj9, hj9, hy]
          · rw [if_neg hj9]; exact hd j (by omega)
        by_cases hz : x.toInt.natAbs / 10 ^ (s9 + 1) = 0
        · refine lv_lload hx hb d_Wr_writeInteger_48 (lv_at hl 0 rfl) ?_
          refine lv_lconst (v := 0) hx hb d_Wr_writeInteger_50 (by decide) ?_
          refine W.lcmp hx hb d_Wr_writeInteger_51 ?_
          refine lv_if_eq (tgt := 61) hx hb d_Wr_writeInteger_52 (by decide) (fun c16 => ?_) (fun c16 => absurd ((lg_eq).mpr (dg_0.mpr (hy2.trans hz))) c16)
          have hn19 : wr_n x.toInt.natAbs 19 = s9 + 1 := by have h9 := wr_n_s hz hmin (18 - s9); rw [show s9 + 1 + (18 - s9) = 19 by omega] at h9; exact h9
          refine lv_iload_n hx hb d_Wr_writeInteger_61 rfl (lv_at hl 1 rfl) ?_
          refine lv_iconst (v := 1) hx hb d_Wr_writeInteger_62 (by decide) ?_
          refine gn_isub (a := s9 + 1) (b := 1) hx hb (by omega) d_Wr_writeInteger_63 ?_
          refine W.eq (g2 := F0 m 64 ls [.int (dI (s9 + 1))]) (by rw [dI_s]; rfl) ?_
          refine lv_istore hx hb d_Wr_writeInteger_64 hl (by decide) rfl (fun ls hl => ?_)
          have hl : lv_has ls 7 [(6, .int (dI (s9 + 1))), (4, .long (y9 / 10)), (3, .int (nI (s9 + 1))), (0, .ref a), (1, .long x)] := hl
          have hl : lv_has ls 7 [(6, .int (dI (s9 + 1))), (0, .ref a)] := lv_sub hl [0, 3] rfl
          exact loop2 (s9 + 1) [] _ _ _ _ ls (by omega) (by unfold wr_i; rw [hn19]; rw [if_neg hneg]) hd2 h_dg_f15 ⟨h_a_f15, _, h_dg_f15⟩ hfr V hl
        · refine lv_lload hx hb d_Wr_writeInteger_48 (lv_at hl 0 rfl) ?_
          refine lv_lconst (v := 0) hx hb d_Wr_writeInteger_50 (by decide) ?_
          refine W.lcmp hx hb d_Wr_writeInteger_51 ?_
          refine lv_if_eq (tgt := 61) hx hb d_Wr_writeInteger_52 (by decide) (fun c17 => absurd c17 (fun z => hz (hy2.symm.trans (dg_0.mp ((lg_eq).mp z))))) (fun c17 => ?_)
          refine lv_iload_n hx hb d_Wr_writeInteger_55 rfl (lv_at hl 1 rfl) ?_
          refine lv_bipush (v := 19) hx hb d_Wr_writeInteger_56 (by decide) ?_
          refine lv_icmp_lt (tgt := 17) hx hb d_Wr_writeInteger_58 (by decide) (fun c18 => ?_) (fun c18 => absurd (nI_lt (a := s9 + 1) (b := 19) (by omega) (by decide)) c18)
          have hl : lv_has ls 7 [(3, .int (nI (s9 + 1))), (4, .long (y9 / 10)), (0, .ref a), (1, .long x)] := lv_sub hl [1, 0, 2, 3] rfl
          have hl : lv_has ls 7 [(3, .int (nI (s9 + 1))), (4, .long (y9 / 10)), (0, .ref a), (1, .long x)] := hl
          exact ih (s9 + 1) (y9 / 10) _ _ _ _ ls (by omega) hy2 (Or.inr hz) hd2 h_dg_f15 h_a_f15 hfr V hl
    exact loop 18 0 x h0 _ _ _ ls (by omega) (by rw [Nat.pow_zero, Nat.div_one]) (Or.inl rfl) (fun j hj => absurd hj (Nat.not_lt_zero j)) hwd hwa hfr V hl
