/-! Letters of the model: eight to a long. Printed by wip/whole/gen_mo5.py. -/
theorem kl_Mo_144 : Cond.constantLong R_Mo 144 255 ∈ g_tbl := g_in 1146 (by decide +kernel) (by decide +kernel)
/-- the letter at k -/
def ml_at (lo mi hi : Int64) (k : Nat) : Int32 := ((if k < 8 then lo else if k < 16 then mi else hi) >>> ((8 * (nI k &&& 7)).toInt64 &&& 63) &&& 255).toInt32
def ml_L (J : Nat → Nat → Int64) (v : Nat) (L : List Int32) : Prop := L.length ≤ 24 ∧ ∀ k, k < 24 → ml_at (J 6 v) (J 7 v) (J 8 v) k = L.getD k 0
theorem ml_or {x y s : Int64} : ((x ||| y) >>> s &&& 255).toInt32 = (x >>> s &&& 255).toInt32 ||| (y >>> s &&& 255).toInt32 := by
  apply Int32.toBitVec_inj.mp
  apply BitVec.eq_of_getLsbD_eq
  intro i hi
  have h64 : i < 64 := by omega
  simp [Int64.toBitVec_shiftRight]
  simp only [BitVec.getLsbD_signExtend, hi, h64, BitVec.getLsbD_sshiftRight, BitVec.msb_or, BitVec.getLsbD_or]
  simp
  rw [show (!decide (64 ≤ i)) = true by simp; omega]
  split
  · cases x.toBitVec.getLsbD ((s.toBitVec.smod 64#64).toNat + i) <;> cases y.toBitVec.getLsbD ((s.toBitVec.smod 64#64).toNat + i) <;> cases (255#32).getLsbD i <;> rfl
  · cases x.toBitVec.msb <;> cases y.toBitVec.msb <;> cases (255#32).getLsbD i <;> rfl
theorem ml_sk : ∀ k, k < 24 → (8 * (nI k &&& 7)).toInt64 &&& 63 = (8 * (nI (k % 8) &&& 7)).toInt64 &&& 63 := by decide +kernel
theorem ml_sh8 : ∀ k, k < 8 → ∀ j, j < 8 → ∀ c, c < 127 → ((((nI c).toInt64 <<< ((8 * (nI k &&& 7)).toInt64 &&& 63)) >>> ((8 * (nI j &&& 7)).toInt64 &&& 63)) &&& 255).toInt32 = if k = j then nI c else 0 := by decide +kernel
/-- the letter is set where there was none -/
theorem ml_add {w : Int64} {cc k j : Nat} (hc : cc < 127) (hk : k < 24) (hj : j < 24) : ((w ||| ((nI cc).toInt64 <<< ((8 * (nI k &&& 7)).toInt64 &&& 63))) >>> ((8 * (nI j &&& 7)).toInt64 &&& 63) &&& 255).toInt32 = (w >>> ((8 * (nI j &&& 7)).toInt64 &&& 63) &&& 255).toInt32 ||| (if k % 8 = j % 8 then nI cc else 0) := by
  rw [ml_or, ml_sk k hk, ml_sk j hj, ml_sh8 (k % 8) (by omega) (j % 8) (by omega) cc hc]
theorem ml_at_add {lo mi hi : Int64} {cc k : Nat} (hc : cc < 127) (hk : k < 24) : ∀ j, j < 24 → ml_at (if k < 8 then lo ||| ((nI cc).toInt64 <<< ((8 * (nI k &&& 7)).toInt64 &&& 63)) else lo) (if k < 8 then mi else if k < 16 then mi ||| ((nI cc).toInt64 <<< ((8 * (nI k &&& 7)).toInt64 &&& 63)) else mi) (if k < 16 then hi else hi ||| ((nI cc).toInt64 <<< ((8 * (nI k &&& 7)).toInt64 &&& 63))) j = ml_at lo mi hi j ||| (if k = j then nI cc else 0) := by
  intro j hj
  have z : ∀ x : Int32, x ||| 0 = x := fun x => by
    apply Int32.toBitVec_inj.mp
    simp
  unfold ml_at
  by_cases hk8 : k < 8
  · rw [if_pos hk8, if_pos hk8, if_pos (show k < 16 by omega)]
    by_cases hj8 : j < 8
    · rw [if_pos hj8, if_pos hj8, ml_add hc hk hj]
      congr 1
      by_cases h : k = j
      · rw [if_pos h, if_pos (by omega)]
      · rw [if_neg h, if_neg (by omega)]
    · rw [if_neg hj8, if_neg hj8, if_neg (show ¬ k = j by omega), z]
  · rw [if_neg hk8, if_neg hk8]
    by_cases hk16 : k < 16
    · rw [if_pos hk16, if_pos hk16]
      by_cases hj8 : j < 8
      · rw [if_pos hj8, if_pos hj8, if_neg (show ¬ k = j by omega), z]
      · rw [if_neg hj8, if_neg hj8]
        by_cases hj16 : j < 16
        · rw [if_pos hj16, if_pos hj16, ml_add hc hk hj]
          congr 1
          by_cases h : k = j
          · rw [if_pos h, if_pos (by omega)]
          · rw [if_neg h, if_neg (by omega)]
        · rw [if_neg hj16, if_neg hj16, if_neg (show ¬ k = j by omega), z]
    · rw [if_neg hk16, if_neg hk16]
      by_cases hj8 : j < 8
      · rw [if_pos hj8, if_pos hj8, if_neg (show ¬ k = j by omega), z]
      · rw [if_neg hj8, if_neg hj8]
        by_cases hj16 : j < 16
        · rw [if_pos hj16, if_pos hj16, if_neg (show ¬ k = j by omega), z]
        · rw [if_neg hj16, if_neg hj16, ml_add hc hk hj]
          congr 1
          by_cases h : k = j
          · rw [if_pos h, if_pos (by omega)]
          · rw [if_neg h, if_neg (by omega)]

theorem d_Mo_letterOf_0 : decode b_Mo_letterOf 0 = .ok (.iload_n 2, 1) := by decide +kernel
theorem d_Mo_letterOf_1 : decode b_Mo_letterOf 1 = .ok (.bipush 8, 2) := by decide +kernel
theorem d_Mo_letterOf_3 : decode b_Mo_letterOf 3 = .ok (.if_icmp .ge 12, 3) := by decide +kernel
theorem d_Mo_letterOf_6 : decode b_Mo_letterOf 6 = .ok (.aload_n 0, 1) := by decide +kernel
theorem d_Mo_letterOf_7 : decode b_Mo_letterOf 7 = .ok (.getfield 26, 3) := by decide +kernel
theorem d_Mo_letterOf_10 : decode b_Mo_letterOf 10 = .ok (.iload_n 1, 1) := by decide +kernel
theorem d_Mo_letterOf_11 : decode b_Mo_letterOf 11 = .ok (.laload, 1) := by decide +kernel
theorem d_Mo_letterOf_12 : decode b_Mo_letterOf 12 = .ok (.goto 24, 3) := by decide +kernel
theorem d_Mo_letterOf_15 : decode b_Mo_letterOf 15 = .ok (.iload_n 2, 1) := by decide +kernel
theorem d_Mo_letterOf_16 : decode b_Mo_letterOf 16 = .ok (.bipush 16, 2) := by decide +kernel
theorem d_Mo_letterOf_18 : decode b_Mo_letterOf 18 = .ok (.if_icmp .ge 12, 3) := by decide +kernel
theorem d_Mo_letterOf_21 : decode b_Mo_letterOf 21 = .ok (.aload_n 0, 1) := by decide +kernel
theorem d_Mo_letterOf_22 : decode b_Mo_letterOf 22 = .ok (.getfield 29, 3) := by decide +kernel
theorem d_Mo_letterOf_25 : decode b_Mo_letterOf 25 = .ok (.iload_n 1, 1) := by decide +kernel
theorem d_Mo_letterOf_26 : decode b_Mo_letterOf 26 = .ok (.laload, 1) := by decide +kernel
theorem d_Mo_letterOf_27 : decode b_Mo_letterOf 27 = .ok (.goto 9, 3) := by decide +kernel
theorem d_Mo_letterOf_30 : decode b_Mo_letterOf 30 = .ok (.aload_n 0, 1) := by decide +kernel
theorem d_Mo_letterOf_31 : decode b_Mo_letterOf 31 = .ok (.getfield 32, 3) := by decide +kernel
theorem d_Mo_letterOf_34 : decode b_Mo_letterOf 34 = .ok (.iload_n 1, 1) := by decide +kernel
theorem d_Mo_letterOf_35 : decode b_Mo_letterOf 35 = .ok (.laload, 1) := by decide +kernel
theorem d_Mo_letterOf_36 : decode b_Mo_letterOf 36 = .ok (.lstore_n 3, 1) := by decide +kernel
theorem d_Mo_letterOf_37 : decode b_Mo_letterOf 37 = .ok (.lload_n 3, 1) := by decide +kernel
theorem d_Mo_letterOf_38 : decode b_Mo_letterOf 38 = .ok (.bipush 8, 2) := by decide +kernel
theorem d_Mo_letterOf_40 : decode b_Mo_letterOf 40 = .ok (.iload_n 2, 1) := by decide +kernel
theorem d_Mo_letterOf_41 : decode b_Mo_letterOf 41 = .ok (.bipush 7, 2) := by decide +kernel
theorem d_Mo_letterOf_43 : decode b_Mo_letterOf 43 = .ok (.iand, 1) := by decide +kernel
theorem d_Mo_letterOf_44 : decode b_Mo_letterOf 44 = .ok (.imul, 1) := by decide +kernel
theorem d_Mo_letterOf_45 : decode b_Mo_letterOf 45 = .ok (.lshr, 1) := by decide +kernel
theorem d_Mo_letterOf_46 : decode b_Mo_letterOf 46 = .ok (.ldc2_w 144, 3) := by decide +kernel
theorem d_Mo_letterOf_49 : decode b_Mo_letterOf 49 = .ok (.land, 1) := by decide +kernel
theorem d_Mo_letterOf_50 : decode b_Mo_letterOf 50 = .ok (.l2i, 1) := by decide +kernel
theorem d_Mo_letterOf_51 : decode b_Mo_letterOf 51 = .ok (.ireturn, 1) := by decide +kernel
set_option maxHeartbeats 4000000 in
set_option maxRecDepth 100000 in
theorem c_Mo_letterOf (l : Launch) (E : gh_E) (sz : Nat) (f : gh_F) (a : Nat) (ad : Nat → Nat) (S : Nat → Int32) (I : Nat → Nat → Int32) (J : Nat → Nat → Int64) (v k : Nat) (hX : mo_R E f a ad S I J) (hv : v < 760) (hk : k < 24) : gh_M l y_Mo_letterOf b_Mo_letterOf 5 (some .int) E sz [.ref a, .int (nI v), .int (nI k)] f { frames := 3, cells := 0, slots := 0, locals := 60 } (fun r g => r = some (.int (ml_at (J 6 v) (J 7 v) (J 8 v) k)) ∧ g = f) := by
  refine gh_open (by decide) (Nat.le_of_ble_eq_true rfl) ?_
  intro p e s m args below meth c A ls hAe C V hr hlocks hname hl
  have hx := C.1
  have hb := C.2.1
  have hl : lv_has ls 5 [(0, .ref a), (1, .int (nI v)), (2, .int (nI k))] := hl
  have X : mo_X E f f a ad S I J := ⟨hX, gh_fr.rf⟩
  refine lv_iload_n hx hb d_Mo_letterOf_0 rfl (lv_at hl 2 rfl) ?_
  refine lv_bipush (v := 8) hx hb d_Mo_letterOf_1 (by decide) ?_
  refine lv_icmp_ge (tgt := 15) hx hb d_Mo_letterOf_3 (by decide) (fun c1 => ?_) (fun c1 => ?_)
  · have c1 : 8 ≤ k := by rw [← gq_le (a := 8) (b := k) (by omega) (by omega)]; exact c1
    refine lv_iload_n hx hb d_Mo_letterOf_15 rfl (lv_at hl 2 rfl) ?_
    refine lv_bipush (v := 16) hx hb d_Mo_letterOf_16 (by decide) ?_
    refine lv_icmp_ge (tgt := 30) hx hb d_Mo_letterOf_18 (by decide) (fun c2 => ?_) (fun c2 => ?_)
    · have c2 : 16 ≤ k := by rw [← gq_le (a := 16) (b := k) (by omega) (by omega)]; exact c2
      refine lv_aload_n hx hb d_Mo_letterOf_30 rfl (lv_at hl 0 rfl) ?_
      refine mo_getA C V X 8 (by decide) (by decide) f_Mo_32 rfl d_Mo_letterOf_31 ?_
      refine lv_iload_n hx hb d_Mo_letterOf_34 rfl (lv_at hl 1 rfl) ?_
      refine mo_lld (k := 8) (i := v) (n := 760) C V X (by decide) (by decide) rfl (by omega) (by decide) d_Mo_letterOf_35 ?_
      refine lv_lstore_n hx hb d_Mo_letterOf_36 rfl hl (by decide) rfl (fun ls hl => ?_)
      have hl : lv_has ls 5 [(3, .long (J 8 v)), (0, .ref a), (1, .int (nI v)), (2, .int (nI k))] := hl
      refine lv_lload_n hx hb d_Mo_letterOf_37 rfl (lv_at hl 0 rfl) ?_
      refine lv_bipush (v := 8) hx hb d_Mo_letterOf_38 (by decide) ?_
      refine lv_iload_n hx hb d_Mo_letterOf_40 rfl (lv_at hl 3 rfl) ?_
      refine lv_bipush (v := 7) hx hb d_Mo_letterOf_41 (by decide) ?_
      refine lv_iand hx hb d_Mo_letterOf_43 ?_
      refine lv_imul hx hb d_Mo_letterOf_44 ?_
      refine lv_lshr hx hb d_Mo_letterOf_45 rfl ?_
      refine lv_ldc2 (v := 255) hx hb C.2.2.2.1 (C.2.2.2.2.1 _ kl_Mo_144) d_Mo_letterOf_46 ?_
      refine lv_land hx hb d_Mo_letterOf_49 ?_
      refine lv_l2i hx hb d_Mo_letterOf_50 rfl ?_
      refine gh_reti hAe C V hr hlocks d_Mo_letterOf_51 (by first | decide | omega | (dsimp only; omega)) (by first | decide | omega | (dsimp only; omega)) ?_
      exact ⟨by unfold ml_at; rw [if_neg (by omega), if_neg (by omega)], rfl⟩
    · have c2 : ¬ 16 ≤ k := by rw [← gq_le (a := 16) (b := k) (by omega) (by omega)]; exact c2
      refine lv_aload_n hx hb d_Mo_letterOf_21 rfl (lv_at hl 0 rfl) ?_
      refine mo_getA C V X 7 (by decide) (by decide) f_Mo_29 rfl d_Mo_letterOf_22 ?_
      refine lv_iload_n hx hb d_Mo_letterOf_25 rfl (lv_at hl 1 rfl) ?_
      refine mo_lld (k := 7) (i := v) (n := 760) C V X (by decide) (by decide) rfl (by omega) (by decide) d_Mo_letterOf_26 ?_
      refine lv_goto (tgt := 36) hx hb d_Mo_letterOf_27 (by decide) ?_
      refine lv_lstore_n hx hb d_Mo_letterOf_36 rfl hl (by decide) rfl (fun ls hl => ?_)
      have hl : lv_has ls 5 [(3, .long (J 7 v)), (0, .ref a), (1, .int (nI v)), (2, .int (nI k))] := hl
      refine lv_lload_n hx hb d_Mo_letterOf_37 rfl (lv_at hl 0 rfl) ?_
      refine lv_bipush (v := 8) hx hb d_Mo_letterOf_38 (by decide) ?_
      refine lv_iload_n hx hb d_Mo_letterOf_40 rfl (lv_at hl 3 rfl) ?_
      refine lv_bipush (v := 7) hx hb d_Mo_letterOf_41 (by decide) ?_
      refine lv_iand hx hb d_Mo_letterOf_43 ?_
      refine lv_imul hx hb d_Mo_letterOf_44 ?_
      refine lv_lshr hx hb d_Mo_letterOf_45 rfl ?_
      refine lv_ldc2 (v := 255) hx hb C.2.2.2.1 (C.2.2.2.2.1 _ kl_Mo_144) d_Mo_letterOf_46 ?_
      refine lv_land hx hb d_Mo_letterOf_49 ?_
      refine lv_l2i hx hb d_Mo_letterOf_50 rfl ?_
      refine gh_reti hAe C V hr hlocks d_Mo_letterOf_51 (by first | decide | omega | (dsimp only; omega)) (by first | decide | omega | (dsimp only; omega)) ?_
      exact ⟨by unfold ml_at; rw [if_neg (by omega), if_pos (by omega)], rfl⟩
  · have c1 : ¬ 8 ≤ k := by rw [← gq_le (a := 8) (b := k) (by omega) (by omega)]; exact c1
    refine lv_aload_n hx hb d_Mo_letterOf_6 rfl (lv_at hl 0 rfl) ?_
    refine mo_getA C V X 6 (by decide) (by decide) f_Mo_26 rfl d_Mo_letterOf_7 ?_
    refine lv_iload_n hx hb d_Mo_letterOf_10 rfl (lv_at hl 1 rfl) ?_
    refine mo_lld (k := 6) (i := v) (n := 760) C V X (by decide) (by decide) rfl (by omega) (by decide) d_Mo_letterOf_11 ?_
    refine lv_goto (tgt := 36) hx hb d_Mo_letterOf_12 (by decide) ?_
    refine lv_lstore_n hx hb d_Mo_letterOf_36 rfl hl (by decide) rfl (fun ls hl => ?_)
    have hl : lv_has ls 5 [(3, .long (J 6 v)), (0, .ref a), (1, .int (nI v)), (2, .int (nI k))] := hl
    refine lv_lload_n hx hb d_Mo_letterOf_37 rfl (lv_at hl 0 rfl) ?_
    refine lv_bipush (v := 8) hx hb d_Mo_letterOf_38 (by decide) ?_
    refine lv_iload_n hx hb d_Mo_letterOf_40 rfl (lv_at hl 3 rfl) ?_
    refine lv_bipush (v := 7) hx hb d_Mo_letterOf_41 (by decide) ?_
    refine lv_iand hx hb d_Mo_letterOf_43 ?_
    refine lv_imul hx hb d_Mo_letterOf_44 ?_
    refine lv_lshr hx hb d_Mo_letterOf_45 rfl ?_
    refine lv_ldc2 (v := 255) hx hb C.2.2.2.1 (C.2.2.2.2.1 _ kl_Mo_144) d_Mo_letterOf_46 ?_
    refine lv_land hx hb d_Mo_letterOf_49 ?_
    refine lv_l2i hx hb d_Mo_letterOf_50 rfl ?_
    refine gh_reti hAe C V hr hlocks d_Mo_letterOf_51 (by first | decide | omega | (dsimp only; omega)) (by first | decide | omega | (dsimp only; omega)) ?_
    exact ⟨by unfold ml_at; rw [if_pos (by omega)], rfl⟩
