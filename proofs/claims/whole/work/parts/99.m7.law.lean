/-! The law: a turn of its loop, the loop, its start. Printed by wip/whole/gen_law4.py; the first rows and the last ones are the kit's skeleton. -/
/-! THE CLAIM OUT OF ONE WALK OF THE LAW'S BODY. Your part is whole_start (and what it stands on); all else here is the same for every law, but numbers. -/
def R_law : String := "QueryMachineLaw"
def lw_P (b : Addr) (xs : List Int32) (args : Array Value) (s : State) : Prop := args = #[.ref b] ∧ s.IntsAt b xs ∧ xs.length ≤ 2048 ∧ (Jvm.Cond.and given_1 narrow_1).before args s = true
def lw_Q (_ : Array Value) (s : State) (o : Outcome) (t : State) : Prop := o = .returned (some (.int 1)) ∧ Framed s o t [] 601024 7293034
def lw_Z (below : List Frame) (a : Array Value) (s : State) : State → Prop := fun t => ∃ o, t.status = .running ∧ Ended t below o ∧ lw_Q a s o t
/-- the law's own end, with 1 on the stack, nothing written that was there before, its room as the claim has it -/
theorem lw_ret {p : Program} {l : Launch} {e : Env} {s : State} {m : MethodId} {below : List Frame} {meth : Method} {c : Code} {b : Nat} (hx : p.tables.exec = Jvm.exec) (hb : c.code = code) (hr : meth.sig.returnType = ret) (hlocks : meth.locks = false) {pc : Nat} {H : Heap} {ls : Array Slot} (hdg : decode code pc = .ok (.ireturn, 1)) : W p l e room_1 s m #[Value.ref b] below meth c H [] 601024 7293034 (lw_Z below #[Value.ref b] s) (F0 m pc ls [.int 1]) := by
  intro T hT X
  obtain ⟨fs, hret, hrun, hended, hW, hframe⟩ := X.leave (v := some (.int 1)) (hlocks := hlocks) (fun h => by rw [hr] at h; cases h)
  have hmeth' : T.vm.method? m = some meth := X.method'
  refine ⟨T.setFrames fs, ?_, .returned (some (.int 1)), hrun, hended, rfl, ⟨_, rfl⟩, hW, hframe⟩
  jvm_step X.here [X.here.top, hx, hb, hdg, hmeth', hr, ret, narrow_b1]
  (try refine ⟨rfl, ?_⟩); (try refine ⟨rfl, ?_⟩)
  first | (intro acts; rw [hret _ acts rfl rfl rfl]) | rw [hret _ _ rfl rfl rfl]
  exact Steps.refl _
/-- what holds at the law's entry: the machine, the code, the tables' words (any of lw_tbl by 'hts w (by decide +kernel)'), the script of L ints xs at the cell b, what the Statement gives of the start (any of its parts by flat_of_before) -/
def lw_At (p : Program) (s : State) (m : MethodId) (meth : Method) (c : Code) (b L : Nat) (xs : Nat → Int32) : Prop :=
  p.tables.exec = Jvm.exec ∧ c.code = code ∧ meth.sig.returnType = ret ∧ c.maxLocals = 8 ∧ s.vm.findClass R_law = some m.cls ∧ (∀ w ∈ lw_tbl, w.before #[Value.ref b] s = true) ∧ va_X b L xs s s.heap ∧ b < s.heap.size ∧ meth.locks = false ∧ (Jvm.Cond.and given_1 narrow_1).before #[Value.ref b] s = true
theorem lw_15 (x : Int32) : ∃ k, k < 16 ∧ x &&& 15 = nI k := by
  refine ⟨(x &&& 15).toBitVec.toNat, ?_, ?_⟩
  · rw [Int32.toBitVec_and, BitVec.toNat_and]
    exact Nat.lt_of_le_of_lt Nat.and_le_right (by decide)
  · apply Int32.toBitVec_inj.mp
    apply BitVec.eq_of_toNat_eq
    show _ = (BitVec.ofNat 32 (x &&& 15).toBitVec.toNat).toNat
    rw [BitVec.toNat_ofNat, Nat.mod_eq_of_lt (x &&& 15).toBitVec.isLt]
set_option maxHeartbeats 4000000 in
set_option maxRecDepth 100000 in
theorem lw_turn {p : Program} {l : Launch} {e : Env} {s : State} {m : MethodId} {args : Array Value} {below : List Frame} {meth : Method} {c : Code} {H : Heap} {locs : List Loc} {cells slots : Nat} {Q : State → Prop} {ls : Array Slot} {E : gh_E} {A : Nat → Prop} {f : gh_F} {ρ Z : Nat → Nat} {mo : Nat} {ad : Nat → Nat} {sb L i9 : Nat} {sc : Nat → Int32} (hst : ∀ e : Env, l.admits e → e.platform.stackTraces = false) (C : gh_C E A p s m args c code R_La 8) (V : gh_V E A f s H locs) (hX : va_X sb L sc s s.heap ∧ sb < s.heap.size ∧ ¬ A sb ∧ L ≤ 2048) (hI : lw_I E ρ Z mo ad f) (hi : i9 + 4 ≤ L) (hl : lv_has ls 8 [(4, .int (nI i9)), (0, .ref sb), (1, .ref (Z 6)), (2, .ref mo), (3, .ref (Z 18))]) (hc : cells + 800 ≤ 601024) (hs : slots + 9800 ≤ 7293034) (k : ∀ (f9 : gh_F) (H9 : Heap) (locs9 : List Loc) (ls9 : Array Slot), gh_V E A f9 s H9 locs9 → lw_I E ρ Z mo ad f9 → lv_has ls9 8 [(4, .int (nI i9)), (0, .ref sb), (1, .ref (Z 6)), (2, .ref mo), (3, .ref (Z 18))] → W p l e { frames := 2048, cells := 601024, slots := 7293034, locals := 84000 } s m args below meth c H9 locs9 (cells + 800) (slots + 9800) Q (F0 m 635 ls9 [])) : W p l e { frames := 2048, cells := 601024, slots := 7293034, locals := 84000 } s m args below meth c H locs cells slots Q (F0 m 32 ls []) := by
  have hx := C.1
  have hb := C.2.1
  have h2048 := hX.2.2.2
  refine lv_aload_n hx hb d_La_law_32 rfl (lv_at hl 1 rfl) ?_
  refine lv_iload hx hb d_La_law_33 (lv_at hl 0 rfl) ?_
  refine lw_ld C V hX (j := i9) (by omega) d_La_law_35 ?_
  refine lv_bipush (v := 15) hx hb d_La_law_36 (by decide) ?_
  refine lv_iand hx hb d_La_law_38 ?_
  obtain ⟨k9, hk9, he9⟩ := lw_15 (sc i9)
  refine W.eq (g2 := F0 m 39 ls [.int (nI k9)]) (by rw [← he9]) ?_
  rcases (show k9 = 0 ∨ k9 = 1 ∨ k9 = 2 ∨ k9 = 3 ∨ k9 = 4 ∨ k9 = 5 ∨ k9 = 6 ∨ k9 = 7 ∨ k9 = 8 ∨ k9 = 9 ∨ k9 = 10 ∨ k9 = 11 ∨ k9 = 12 ∨ k9 = 13 ∨ k9 = 14 ∨ k9 = 15 by omega) with rfl | rfl | rfl | rfl | rfl | rfl | rfl | rfl | rfl | rfl | rfl | rfl | rfl | rfl | rfl | rfl
  · refine lv_tableIn (off := 65) (tgt := 104) hx hb d_La_law_39 (by decide) (by decide) (by decide) (by decide) ?_
    exact lw_case0 hst C V hX hI hi hl hc hs k
  · refine lv_tableIn (off := 145) (tgt := 184) hx hb d_La_law_39 (by decide) (by decide) (by decide) (by decide) ?_
    exact lw_case1 hst C V hX hI hi hl hc hs k
  · refine lv_tableIn (off := 169) (tgt := 208) hx hb d_La_law_39 (by decide) (by decide) (by decide) (by decide) ?_
    exact lw_case2 hst C V hX hI hi hl hc hs k
  · refine lv_tableIn (off := 182) (tgt := 221) hx hb d_La_law_39 (by decide) (by decide) (by decide) (by decide) ?_
    exact lw_case3 hst C V hX hI hi hl hc hs k
  · refine lv_tableIn (off := 262) (tgt := 301) hx hb d_La_law_39 (by decide) (by decide) (by decide) (by decide) ?_
    exact lw_case4 hst C V hX hI hi hl hc hs k
  · refine lv_tableIn (off := 286) (tgt := 325) hx hb d_La_law_39 (by decide) (by decide) (by decide) (by decide) ?_
    exact lw_case5 hst C V hX hI hi hl hc hs k
  · refine lv_tableIn (off := 342) (tgt := 381) hx hb d_La_law_39 (by decide) (by decide) (by decide) (by decide) ?_
    exact lw_case6 hst C V hX hI hi hl hc hs k
  · refine lv_tableIn (off := 355) (tgt := 394) hx hb d_La_law_39 (by decide) (by decide) (by decide) (by decide) ?_
    exact lw_case7 hst C V hX hI hi hl hc hs k
  · refine lv_tableIn (off := 368) (tgt := 407) hx hb d_La_law_39 (by decide) (by decide) (by decide) (by decide) ?_
    exact lw_case8 hst C V hX hI hi hl hc hs k
  · refine lv_tableIn (off := 381) (tgt := 420) hx hb d_La_law_39 (by decide) (by decide) (by decide) (by decide) ?_
    exact lw_case9 hst C V hX hI hi hl hc hs k
  · refine lv_tableIn (off := 437) (tgt := 476) hx hb d_La_law_39 (by decide) (by decide) (by decide) (by decide) ?_
    exact lw_case10 hst C V hX hI hi hl hc hs k
  · refine lv_tableIn (off := 505) (tgt := 544) hx hb d_La_law_39 (by decide) (by decide) (by decide) (by decide) ?_
    exact lw_case11 hst C V hX hI hi hl hc hs k
  · refine lv_tableIn (off := 560) (tgt := 599) hx hb d_La_law_39 (by decide) (by decide) (by decide) (by decide) ?_
    exact lw_case12 hst C V hX hI hi hl hc hs k
  · refine lv_tableOut (tgt := 635) hx hb d_La_law_39 (Or.inr (by decide)) (by decide) ?_
    exact gw_le (by omega) (by omega) (k _ _ _ _ V hI hl)
  · refine lv_tableOut (tgt := 635) hx hb d_La_law_39 (Or.inr (by decide)) (by decide) ?_
    exact gw_le (by omega) (by omega) (k _ _ _ _ V hI hl)
  · refine lv_tableOut (tgt := 635) hx hb d_La_law_39 (Or.inr (by decide)) (by decide) ?_
    exact gw_le (by omega) (by omega) (k _ _ _ _ V hI hl)
set_option maxHeartbeats 4000000 in
set_option maxRecDepth 100000 in
theorem lw_loop {p : Program} {l : Launch} {e : Env} {s : State} {m : MethodId} {below : List Frame} {meth : Method} {c : Code} {E : gh_E} {A : Nat → Prop} {ρ Z : Nat → Nat} {mo : Nat} {ad : Nat → Nat} {sb L : Nat} {sc : Nat → Int32} (hst : ∀ e : Env, l.admits e → e.platform.stackTraces = false) (C : gh_C E A p s m #[Value.ref sb] c code R_La 8) (hX : va_X sb L sc s s.heap ∧ sb < s.heap.size ∧ ¬ A sb ∧ L ≤ 2048) (hA0 : ∀ q, A q → s.heap.size ≤ q) (hr : meth.sig.returnType = ret) (hlocks : meth.locks = false) : ∀ (r t : Nat) (f : gh_F) (H : Heap) (locs : List Loc) (ls : Array Slot), L < 4 * (t + r) + 4 → 4 * t ≤ L → gh_V E A f s H locs → lw_I E ρ Z mo ad f → lv_has ls 8 [(4, .int (nI (4 * t))), (0, .ref sb), (1, .ref (Z 6)), (2, .ref mo), (3, .ref (Z 18))] → W p l e { frames := 2048, cells := 601024, slots := 7293034, locals := 84000 } s m #[Value.ref sb] below meth c H locs (500 + 800 * t) (24000 + 9800 * t) (lw_Z below #[Value.ref sb] s) (F0 m 23 ls []) := by
  have hx := C.1
  have hb := C.2.1
  have h2048 := hX.2.2.2
  have out : ∀ (t : Nat) (f : gh_F) (H : Heap) (locs : List Loc) (ls : Array Slot), L < 4 * t + 4 → 4 * t ≤ L → gh_V E A f s H locs → lv_has ls 8 [(4, .int (nI (4 * t))), (0, .ref sb), (1, .ref (Z 6)), (2, .ref mo), (3, .ref (Z 18))] → W p l e { frames := 2048, cells := 601024, slots := 7293034, locals := 84000 } s m #[Value.ref sb] below meth c H locs (500 + 800 * t) (24000 + 9800 * t) (lw_Z below #[Value.ref sb] s) (F0 m 23 ls []) := by
    intro t f H locs ls hLt htL V hl
    refine lv_iload hx hb d_La_law_23 (lv_at hl 0 rfl) ?_
    refine lv_aload_n hx hb d_La_law_25 rfl (lv_at hl 1 rfl) ?_
    refine va_slen C.1 C.2.1 hX.1 hX.2.1 hX.2.2.1 V.2 d_La_law_26 ?_
    refine W.eq (g2 := F0 m 27 ls [.int (nI L), .int (nI (4 * t))]) rfl ?_
    refine lv_iconst (v := 4) hx hb d_La_law_27 (by decide) ?_
    by_cases h4 : 4 ≤ L
    · refine W.eq (g2 := F0 m 28 ls [.int (nI 4), .int (nI L), .int (nI (4 * t))]) rfl ?_
      refine gn_isub (a := L) (b := 4) hx hb h4 d_La_law_28 ?_
      refine lv_icmp_gt (tgt := 641) hx hb d_La_law_29 (by decide) (fun c1 => ?_) (fun c1 => absurd ((gq_lt (a := L - 4) (b := 4 * t) (by omega) (by omega)).mpr (by omega)) c1)
      refine lv_iconst (v := 1) hx hb d_La_law_641 (by decide) ?_
      refine va_forget (fun q hq => hA0 _ (V.2.2.2 q hq)) ?_
      refine W.widen (k := 601024) (n := 7293034) (by omega) (by omega) ?_
      exact lw_ret C.1 C.2.1 hr hlocks d_La_law_642
    · have ht0 : t = 0 := by omega
      refine lv_isub hx hb d_La_law_28 ?_
      have hcmp : nI L - 4 < nI (4 * t) := by
        rw [ht0]
        rcases (show L = 0 ∨ L = 1 ∨ L = 2 ∨ L = 3 by omega) with h | h | h | h <;> rw [h] <;> decide
      refine lv_icmp_gt (tgt := 641) hx hb d_La_law_29 (by decide) (fun c2 => ?_) (fun c2 => absurd hcmp c2)
      refine lv_iconst (v := 1) hx hb d_La_law_641 (by decide) ?_
      refine va_forget (fun q hq => hA0 _ (V.2.2.2 q hq)) ?_
      refine W.widen (k := 601024) (n := 7293034) (by omega) (by omega) ?_
      exact lw_ret C.1 C.2.1 hr hlocks d_La_law_642
  intro r
  induction r with
  | zero => intro t f H locs ls hLt htL V _ hl; exact out t f H locs ls (by omega) htL V hl
  | succ r ih =>
    intro t f H locs ls hLt htL V hI hl
    by_cases hh : 4 * t + 4 ≤ L
    · refine lv_iload hx hb d_La_law_23 (lv_at hl 0 rfl) ?_
      refine lv_aload_n hx hb d_La_law_25 rfl (lv_at hl 1 rfl) ?_
      refine va_slen C.1 C.2.1 hX.1 hX.2.1 hX.2.2.1 V.2 d_La_law_26 ?_
      refine W.eq (g2 := F0 m 27 ls [.int (nI L), .int (nI (4 * t))]) rfl ?_
      refine lv_iconst (v := 4) hx hb d_La_law_27 (by decide) ?_
      refine W.eq (g2 := F0 m 28 ls [.int (nI 4), .int (nI L), .int (nI (4 * t))]) rfl ?_
      refine gn_isub (a := L) (b := 4) hx hb (by omega) d_La_law_28 ?_
      refine lv_icmp_gt (tgt := 641) hx hb d_La_law_29 (by decide) (fun c3 => absurd c3 (fun z => absurd ((gq_lt (a := L - 4) (b := 4 * t) (by omega) (by omega)).mp z) (by omega))) (fun c3 => ?_)
      refine lw_turn hst C V hX hI hh hl (by omega) (by omega) (fun f9 H9 locs9 ls9 V9 hI9 hl9 => ?_)
      refine lv_iinc (k := 0) (v := nI (4 * t) + 4) hx hb d_La_law_635 hl9 rfl (by rfl) (by decide) rfl (fun ls hl => ?_)
      have hl : lv_has ls 8 [(4, .int (nI (4 * (t + 1)))), (0, .ref sb), (1, .ref (Z 6)), (2, .ref mo), (3, .ref (Z 18))] := by
        rw [show nI (4 * (t + 1)) = nI (4 * t) + 4 from by rw [show 4 * (t + 1) = 4 * t + 4 by omega, ← nI_add]; first | done | rfl]
        exact hl
      refine lv_goto (tgt := 23) hx hb d_La_law_638 (by decide) ?_
      exact gw_le (by omega) (by omega) (ih (t + 1) f9 H9 locs9 ls (by omega) (by omega) V9 hI9 hl)
    · exact out t f H locs ls (by omega) htL V hl
set_option maxHeartbeats 4000000 in
set_option maxRecDepth 100000 in
theorem lw_begin {p : Program} {l : Launch} {e : Env} {s : State} {m : MethodId} {below : List Frame} {meth : Method} {c : Code} {E : gh_E} {A : Nat → Prop} {sb L : Nat} {sc : Nat → Int32} {f : gh_F} {ls : Array Slot} (hst : ∀ e : Env, l.admits e → e.platform.stackTraces = false) (C : gh_C E A p s m #[Value.ref sb] c code R_La 8) (V : gh_V E A f s s.heap []) (hX : va_X sb L sc s s.heap ∧ sb < s.heap.size ∧ ¬ A sb ∧ L ≤ 2048) (hA0 : ∀ q, A q → s.heap.size ≤ q) (hr : meth.sig.returnType = ret) (hlocks : meth.locks = false) (hl : lv_has ls 8 [(0, .ref sb)]) : W p l e { frames := 2048, cells := 601024, slots := 7293034, locals := 84000 } s m #[Value.ref sb] below meth c s.heap [] 0 0 (lw_Z below #[Value.ref sb] s) (F0 m 0 ls []) := by
  have hx := C.1
  have hb := C.2.1
  have h2048 := hX.2.2.2
  refine gh_new (fs := [.null, .int 0, .null, .null, .null, .null, .null, .null]) C V gc_QM gi_QM ty_QM k_La_8 n_QM i_QM (by decide) (by first | decide | omega | (dsimp only; omega)) (by first | decide | omega | (dsimp only; omega)) d_La_law_0 (fun q1 H hnq1 V => ?_)
  obtain ⟨f2, hff2⟩ : ∃ z9 : gh_F, z9 = gh_u f q1 (.inr (0, [.null, .int 0, .null, .null, .null, .null, .null, .null])) := ⟨_, rfl⟩
  have V : gh_V E A f2 s H [] := by rw [hff2]; exact V
  have h_q1_f2 : f2 q1 = some (.inr (0, [.null, .int 0, .null, .null, .null, .null, .null, .null])) := by rw [hff2, gh_us]
  refine lv_dup hx hb d_La_law_3 rfl ?_
  refine gh_callI C V hl.1 m_QM_init l_La_49 (c_QM_init2 l E _ f2 q1 h_q1_f2) rfl ⟨by first | decide | omega | (dsimp only; omega), by first | decide | omega | (dsimp only; omega)⟩ ⟨by first | decide | omega | (dsimp only; omega), by first | decide | omega | (dsimp only; omega)⟩ (Nat.le_of_ble_eq_true rfl) rfl d_La_law_4 (fun r g1 H locs hp9 V1 => ?_)
  obtain ⟨rfl, hQI, -⟩ := hp9
  have V := V1
  refine W.eq (g2 := F0 m 7 ls [.ref q1]) rfl ?_
  refine lv_astore_n hx hb d_La_law_7 rfl hl (by decide) rfl (fun ls hl => ?_)
  have hl : lv_has ls 8 [(1, .ref q1), (0, .ref sb)] := hl
  refine gh_new (fs := [.int 0, .null, .null, .null, .null, .null, .null, .null, .null, .null, .null, .int 0, .int 0, .null, .null, .null, .int 0, .int 0, .int 0, .null, .int 0, .int 0, .null, .null, .null, .null, .null, .int 0, .int 0, .null, .int 0, .null, .null, .null, .null, .null, .null, .null, .null, .null, .null, .null, .null, .null, .null, .int 0, .int 0, .int 0, .int 0, .int 0, .null, .int 0, .null, .null, .int 0, .int 0, .int 0, .int 0, .null, .null]) C V gc_Mo gi_Mo ty_Mo k_La_50 n_Mo i_Mo (by decide) (by first | decide | omega | (dsimp only; omega)) (by first | decide | omega | (dsimp only; omega)) d_La_law_8 (fun q3 H hnq3 V => ?_)
  obtain ⟨f4, hff4⟩ : ∃ z9 : gh_F, z9 = gh_u g1 q3 (.inr (9, [.int 0, .null, .null, .null, .null, .null, .null, .null, .null, .null, .null, .int 0, .int 0, .null, .null, .null, .int 0, .int 0, .int 0, .null, .int 0, .int 0, .null, .null, .null, .null, .null, .int 0, .int 0, .null, .int 0, .null, .null, .null, .null, .null, .null, .null, .null, .null, .null, .null, .null, .null, .null, .int 0, .int 0, .int 0, .int 0, .int 0, .null, .int 0, .null, .null, .int 0, .int 0, .int 0, .int 0, .null, .null])) := ⟨_, rfl⟩
  have V : gh_V E A f4 s H locs := by rw [hff4]; exact V
  have h_q3_f4 : f4 q3 = some (.inr (9, [.int 0, .null, .null, .null, .null, .null, .null, .null, .null, .null, .null, .int 0, .int 0, .null, .null, .null, .int 0, .int 0, .int 0, .null, .int 0, .int 0, .null, .null, .null, .null, .null, .int 0, .int 0, .null, .int 0, .null, .null, .null, .null, .null, .null, .null, .null, .null, .null, .null, .null, .null, .null, .int 0, .int 0, .int 0, .int 0, .int 0, .null, .int 0, .null, .null, .int 0, .int 0, .int 0, .int 0, .null, .null])) := by rw [hff4, gh_us]
  refine lv_dup hx hb d_La_law_11 rfl ?_
  have hmo : f4 q3 = some (.inr (9, (List.range 60).map (mo_f0 (fun _ => 0) (fun _ => 0) 0))) := h_q3_f4
  refine gh_callI C V hl.1 m_Mo_init l_La_52 (c_Mo_init l E _ f4 q3 (fun _ => 0) hmo) rfl ⟨by first | decide | omega | (dsimp only; omega), by first | decide | omega | (dsimp only; omega)⟩ ⟨by first | decide | omega | (dsimp only; omega), by first | decide | omega | (dsimp only; omega)⟩ (Nat.le_of_ble_eq_true rfl) rfl d_La_law_12 (fun r g3 H locs hp9 V1 => ?_)
  obtain ⟨rfl, ad, hR, had, hfr3⟩ := hp9
  have V := V1
  refine W.eq (g2 := F0 m 15 ls [.ref q3]) rfl ?_
  refine lv_astore_n hx hb d_La_law_15 rfl hl (by decide) rfl (fun ls hl => ?_)
  have hl : lv_has ls 8 [(2, .ref q3), (1, .ref q1), (0, .ref sb)] := hl
  refine lv_iconst (v := 1) hx hb d_La_law_16 (by decide) ?_
  refine gh_newa (atype := .long) (ty := .long) (t0 := 1) (a0 := (1, .inr (.inl (fun _ => 0)))) (N := 1) C V rfl ac_long rfl (fun _ h => by cases h) (gh_a0l _) (by decide) (by decide) (by decide +kernel) (by first | decide | omega | (dsimp only; omega)) (by first | decide | omega | (dsimp only; omega)) d_La_law_17 (fun q5 H hnq5 V => ?_)
  obtain ⟨f6, hff6⟩ : ∃ z9 : gh_F, z9 = gh_u g3 q5 (.inl (E.2.2.1 1, 1, .inr (.inl (fun _ => 0)))) := ⟨_, rfl⟩
  have V : gh_V E A f6 s H locs := by rw [hff6]; exact V
  have h_q5_f6 : f6 q5 = some (.inl (E.2.2.1 1, 1, .inr (.inl (fun _ => 0)))) := by rw [hff6, gh_us]
  refine lv_astore_n hx hb d_La_law_19 rfl hl (by decide) rfl (fun ls hl => ?_)
  have hl : lv_has ls 8 [(3, .ref q5), (2, .ref q3), (1, .ref q1), (0, .ref sb)] := hl
  refine lv_iconst (v := 0) hx hb d_La_law_20 (by decide) ?_
  refine lv_istore hx hb d_La_law_21 hl (by decide) rfl (fun ls hl => ?_)
  have hl : lv_has ls 8 [(4, .int 0), (3, .ref q5), (2, .ref q3), (1, .ref q1), (0, .ref sb)] := hl
  have fr12 : gh_fr g1 f4 (fun _ => False) := by rw [hff4]; exact gh_fr.rf.put (Or.inr hnq3)
  have fr13 : gh_fr g1 g3 (fun _ => False) := fr12.tr hfr3 (fun b e hb z => by rw [List.mem_singleton.mp z, hnq3] at hb; cases hb)
  have fr34 : gh_fr g3 f6 (fun _ => False) := by rw [hff6]; exact gh_fr.rf.put (Or.inr hnq5)
  have fr14 : gh_fr g1 f6 (fun _ => False) := fr13.tr fr34 (fun _ _ _ z => z)
  have hR4 := hR.keep fr34 (fun _ _ z => z)
  obtain ⟨ρ, Z, nu, y6, y18, hρm, hρa, hA⟩ := rl_start (g4 := f6) hQI fr14 hnq3 (fun k hk h8 => fr12.non (had k hk h8)) (fr13.non hnq5) (by rw [hR4.1]; exact fun z => by cases z) (fun k hk h8 => by rw [hR4.2.1 k hk h8]; exact fun z => by cases z) (fun z => by have h9 := hR.1; rw [← z, hnq5] at h9; cases h9) (fun k hk h8 z => by have h9 := hR.2.1 k hk h8; rw [← z, hnq5] at h9; cases h9) h_q5_f6
  have hl : lv_has ls 8 [(4, .int 0), (0, .ref sb), (1, .ref q1), (2, .ref q3), (3, .ref q5)] := lv_sub hl [0, 4, 3, 2, 1] rfl
  have hl : lv_has ls 8 [(4, .int (nI (4 * 0))), (0, .ref sb), (1, .ref (Z 6)), (2, .ref q3), (3, .ref (Z 18))] := by rw [y6, y18]; exact hl
  exact gw_le (by first | decide | omega | (dsimp only; omega)) (by first | decide | omega | (dsimp only; omega)) (lw_loop hst C hX hA0 hr hlocks 512 0 _ H _ ls (by omega) (by omega) V ⟨⟨hρm, hρa⟩, ⟨_, by rw [y18]; exact h_q5_f6⟩, _, _, _, _, _, _, _, _, _, _, _, _, _, _, _, _, _, _, _, hA, hR4, li_start⟩ hl)
theorem whole_start {p : Program} {e : Env} {s : State} {m : MethodId} {below : List Frame} {meth : Method} {c : Code} (l : Launch) (hst : ∀ e : Env, l.admits e → e.platform.stackTraces = false) {b L : Nat} {xs : Nat → Int32} (hL : L ≤ 2048) (C0 : lw_At p s m meth c b L xs) : W p l e room_1 s m #[Value.ref b] below meth c s.heap [] 0 0 (lw_Z below #[Value.ref b] s) (entryFrame m ([Value.ref b] : List Value).toArray 8) := by
  obtain ⟨hexec, hcode, hret, hmax, hown, hts0, hXX, hbl, hlocks, hnar⟩ := C0
  obtain ⟨E, hE1, hK, hZ⟩ := st_open hts0 hnar
  have C : gh_C E (fun q => s.heap.size ≤ q) p s m #[Value.ref b] c code R_La 8 := ⟨hexec, hcode, hmax, hown, fun w hw => hts0 w (List.mem_filter.mp hw).1, hK, by rw [hE1]; exact Nat.le_refl _, hZ, fun q h => h, fun q h => by show E.2.1 ≤ q; rw [hE1]; exact h⟩
  have V : gh_V E (fun q => s.heap.size ≤ q) (fun _ => none) s s.heap [] := ⟨fun a e h => (by cases h), va_S.rf⟩
  rw [lg_entry_eq]
  exact lw_begin hst C V ⟨hXX, hbl, by omega, hL⟩ (fun q h => h) hret hlocks (lv_entry [Value.ref b] (Nat.le_of_ble_eq_true rfl))
set_option maxHeartbeats 4000000 in
theorem lw_walk (l : Launch) (hst : ∀ e : Env, l.admits e → e.platform.stackTraces = false) (b : Addr) (xs : List Int32) : MetFree l x (headSpec (Jvm.Cond.code x code maxLocals ret :: tables_1) room_1) (lw_P b xs) (fun _ _ _ _ _ => True) lw_Q := by
  refine MetFree.of_bodyS (code := code) (maxLocals := maxLocals) (ret := ret) (by decide) ?_ ?_
  · intro args s m h hn
    obtain ⟨meth, c, h1, h2, h3, h4, h5, h6, -, -⟩ := Cond.code_spec hn (atoms_spec (ws := Jvm.Cond.code x code maxLocals ret :: tables_1) h _ List.mem_cons_self)
    exact ⟨meth, c, h1, h2, h3, h4, h5, h6⟩
  · intro p e s m args below meth c s₁ B hml0 hP _
    obtain ⟨rfl, hx, hbd, hgv⟩ := hP
    obtain ⟨scr, harrAt, hlist, hof, hsmall⟩ := hx
    obtain ⟨hcb, hkn, -, -⟩ := State.arrayAt?_spec harrAt
    have hown : s.vm.findClass R_law = some m.cls := findClass_of_methodNamed B.named
    have hts0 : ∀ c ∈ (Jvm.Cond.code x code maxLocals ret :: tables_1), c.before #[Value.ref b] s = true := atoms_spec (ws := Jvm.Cond.code x code maxLocals ret :: tables_1) B.pre
    have hts : ∀ w ∈ lw_tbl, w.before #[Value.ref b] s = true := k2_hts_sels lw_privs (fun w hw => hts0 w (List.mem_cons_of_mem _ hw)) lw_privs_ok
    have hml : c.maxLocals = 8 := B.maxLocals_eq (hts0 _ List.mem_cons_self)
    have X₀ : Stand p l e room_1 s m #[Value.ref b] below meth c s₁ [] 0 0 := Stand.of_body B
    have hh0 : s₁.heap = s.heap := by rw [B.state]; rfl
    have hsz : scr.slots.size = xs.length := by rw [← Array.length_toList, hlist, List.length_map]
    have hval : ∀ j : Nat, j < xs.length → scr.slots[j]? = some (.int (xs.getD j 0)) := fun j hj => by
      rw [← Array.getElem?_toList, hlist]
      simp [hj]
    have hbl : b < s.heap.size := (Array.getElem?_eq_some_iff.mp hcb).1
    have hX : va_X b xs.length (fun j => xs.getD j 0) s s.heap := ⟨scr, hcb, hof, hkn, hsz, hval⟩
    have K : W p l e room_1 s m #[Value.ref b] below meth c s₁.heap [] 0 0 (lw_Z below #[Value.ref b] s) (entryFrame m ([Value.ref b] : List Value).toArray 8) := by
      rw [hh0]
      exact whole_start l hst hbd ⟨B.exec, B.bytes, B.returns, hml, hown, hts, hX, hbl, B.notSynchronized, hgv⟩
    obtain ⟨t, a1, o, b1, b2, b3⟩ := K s₁ rfl X₀
    exact ⟨t, o, a1, b1, b2, b3⟩
theorem lw_pre_spec {args : Array Value} {s : State} (h : (Jvm.Cond.and given_1 narrow_1).before args s = true) (hr : rest_1_c.before args s = true) : ∃ (b : Addr) (xs : List Int32), lw_P b xs args s := by
  have hs := flat_of_before _ h
  have hq := flat_of_before _ hr
  have hc : (Cond.count 1).before args s = true := hs _ (by decide +kernel)
  have harr : (Cond.arrayOf (.arg 0) .int).before args s = true := hs _ (by decide +kernel)
  have hle : (Cond.le (.length (.arg 0)) (.int 2048)).before args s = true := hs _ (by decide +kernel)
  have hlen : (Cond.isInt (.length (.arg 0))).before args s = true := hq _ (by decide +kernel)
  have hall : (Cond.all (.arg 0) (.isInt (.elem (.arg 0) (.index 0)))).before args s = true := hq _ (by decide +kernel)
  obtain ⟨b, xs, hb, hx⟩ := State.ints_of_pre rfl harr hlen hall
  have hsm : xs.length < 2 ^ 31 := hx.choose_spec.2.2.2
  have hev : (Term.length (.arg 0)).eval args s none [] s = some (.int xs.length.toInt32) := hx.length_eval hb
  have hv := Cond.le_ints hev (show (Term.int 2048).eval args s none [] s = some (.int 2048) from rfl)
  have hd : xs.length.toInt32 ≤ 2048 := by
    simpa [Cond.before, Cond.holds, hv] using hle
  have hN : xs.length ≤ 2048 := (Int32.ofNat_le_ofNat hsm (by decide)).mp (show Int32.ofNat xs.length ≤ Int32.ofNat 2048 from hd)
  exact ⟨b, xs, Cond.one_arg hc (show args[0]? = some (.ref b) from hb), hx, hN, h⟩
theorem lw_comes (l : Launch) (hst : ∀ e : Env, l.admits e → e.platform.stackTraces = false) : Comes l x (Jvm.Cond.code x code maxLocals ret :: tables_1) room_1 (fun tb e args s => Calls_1 tb e args s ∧ rest_1 tb e args s ∧ Pre_1 tb e args s)
    (fun _ _ args s o t => lw_Q args s o t) := by
  intro p e ha hc hk s m args below hf hfit hheap happ hpre
  obtain ⟨b, xs, hP⟩ := lw_pre_spec hpre.2.2 hpre.2.1
  obtain ⟨k, o, h1, h2, h3, hQ⟩ := lw_walk l hst b xs p e ha hc hk s m args below hf ((Spec.applies_iff_loose hf).mp happ).1 hP trivial
  exact ⟨k, o, h1, h2, h3, hQ⟩
theorem lw_frame {s t : State} {o : Outcome} {args : Array Value} (h : Framed s o t [] 601024 7293034) :
    Framed s o t (fieldLocs frame_1_writes args s ++ arrayLocs frame_1_arrays args s ++ staticLocs frame_1_statics s) 601024 7293034 := h
theorem lw_limb (L : Cond) (hL : ∀ (args : Array Value) (s t : State), L.after args s (.returned (some (.int 1))) t = true) :
    ArmFor flags0 classFile x code maxLocals ret World_1 tables_1 room_1 Calls_1 rest_1 Pre_1
      (fun tb e a s o t => postC L tb e a s o t ∧ Framed s o t (fieldLocs frame_1_writes a s ++ arrayLocs frame_1_arrays a s ++ staticLocs frame_1_statics s) 601024 7293034) := by
  intro l hfl _ _ p e ha hc hk s m args below hf hfit hheap happ hpre
  obtain ⟨k, o, h1, h2, h3, rfl, hF⟩ := lw_comes l (fun e ha => Launch.traces_off hfl ha) p e ha hc hk s m args below hf hfit hheap happ hpre
  exact ⟨k, _, h1, h2, h3, hL args s _, lw_frame hF⟩
theorem i_vc : Claimed_1_1 ∧ Claimed_1_2 := ⟨lw_limb limb_1_1 (fun args s t => by simp [limb_1_1, Cond.after, Cond.holds, Cond.value]), lw_limb limb_1_2 (fun args s t => Cond.after_iff.mpr (by
  first | (rw [show limb_1_2 = Cond.eq .result (.int 1) from rfl, Cond.eq_ints (x := 1) (y := 1) rfl rfl]; simp; done) | (simp [limb_1_2, Cond.value, Term.eval]; done)))⟩
