/-! Writer. Printed by wip/whole/gen_wr.py. -/
/-- the writer: st is how many signs there were and what was found -/
def wS (E : gh_E) (f : gh_F) (a dg : Nat) (wt : Int32) (st : Nat × Int32) : Prop := f a = some (.inr (8, [.ref dg, .int wt, .int st.2, .int (nI st.1)])) ∧ ∃ h : Nat → Int32, f dg = some (.inl (E.2.2.1 2, 19, .inl h))
def wM (a dg : Nat) : Nat → Prop := fun b => b = a ∨ b = dg
theorem wM.P {a dg : Nat} {P : Nat → Prop} (h1 : ¬ P a) (h2 : ¬ P dg) : ∀ b, wM a dg b → ¬ P b := fun b hb => by rcases hb with rfl | rfl <;> assumption
theorem wM.tr {f g k : gh_F} {a dg : Nat} (h : gh_fr f g (wM a dg)) (h2 : gh_fr g k (wM a dg)) : gh_fr f k (wM a dg) := h.tr h2 (fun _ _ _ z => z)
theorem wr_l_snoc {wt : Int32} {st : Nat × Int32} {L : List Int32} {c : Int32} : wr_l wt st (L ++ [c]) = wr_c wt (wr_l wt st L) c := by rw [wr_l_app]; rfl
def chr (x : Int32) : Prop := ∃ k, k < 128 ∧ x = nI k
theorem chr_all : ∀ k, k < 128 → narrow .char (.int (nI k)) = .int (nI k) ∧ fits .char (.int (nI k)) = true ∧ vp_nar .char (nI k) = nI k := by decide +kernel
theorem chr.nar {x : Int32} (h : chr x) : narrow .char (.int x) = .int x := by obtain ⟨k, h1, rfl⟩ := h; exact (chr_all k h1).1
theorem chr.fit {x : Int32} (h : chr x) : fits .char (.int x) = true := by obtain ⟨k, h1, rfl⟩ := h; exact (chr_all k h1).2.1
theorem chr.vp {x : Int32} (h : chr x) : vp_nar .char x = x := by obtain ⟨k, h1, rfl⟩ := h; exact (chr_all k h1).2.2
theorem lt_ok.chr {L : List Int32} (h : lt_ok L) {j : Nat} (hj : j < L.length) : chr (L.getD j 0) := by obtain ⟨c, h1, h2, h3⟩ := h.2 j hj; exact ⟨c, by omega, h3⟩
theorem sc_chr : ∀ i, i < 3 → ∀ k, k < sc_n i → chr (sc_c i k) := by
  have h : ∀ i, i < 3 → ∀ k, k < sc_n i → ∃ c, c < 128 ∧ sc_c i k = nI c := by decide +kernel
  exact h
theorem sc_len : ∀ i, i < 3 → (sc_b.getD i []).length = sc_n i := by decide +kernel
theorem d_Wr_writeSign_0 : decode b_Wr_writeSign 0 = .ok (.aload_n 0, 1) := by decide +kernel
theorem d_Wr_writeSign_1 : decode b_Wr_writeSign 1 = .ok (.getfield 21, 3) := by decide +kernel
theorem d_Wr_writeSign_4 : decode b_Wr_writeSign 4 = .ok (.aload_n 0, 1) := by decide +kernel
theorem d_Wr_writeSign_5 : decode b_Wr_writeSign 5 = .ok (.getfield 13, 3) := by decide +kernel
theorem d_Wr_writeSign_8 : decode b_Wr_writeSign 8 = .ok (.if_icmp .ne 8, 3) := by decide +kernel
theorem d_Wr_writeSign_11 : decode b_Wr_writeSign 11 = .ok (.aload_n 0, 1) := by decide +kernel
theorem d_Wr_writeSign_12 : decode b_Wr_writeSign 12 = .ok (.iload_n 1, 1) := by decide +kernel
theorem d_Wr_writeSign_13 : decode b_Wr_writeSign 13 = .ok (.putfield 17, 3) := by decide +kernel
theorem d_Wr_writeSign_16 : decode b_Wr_writeSign 16 = .ok (.aload_n 0, 1) := by decide +kernel
theorem d_Wr_writeSign_17 : decode b_Wr_writeSign 17 = .ok (.dup, 1) := by decide +kernel
theorem d_Wr_writeSign_18 : decode b_Wr_writeSign 18 = .ok (.getfield 21, 3) := by decide +kernel
theorem d_Wr_writeSign_21 : decode b_Wr_writeSign 21 = .ok (.iconst 1, 1) := by decide +kernel
theorem d_Wr_writeSign_22 : decode b_Wr_writeSign 22 = .ok (.iadd, 1) := by decide +kernel
theorem d_Wr_writeSign_23 : decode b_Wr_writeSign 23 = .ok (.putfield 21, 3) := by decide +kernel
theorem d_Wr_writeSign_26 : decode b_Wr_writeSign 26 = .ok (.return_, 1) := by decide +kernel
set_option maxHeartbeats 4000000 in
set_option maxRecDepth 100000 in
theorem c_Wr_writeSign (l : Launch) (E : gh_E) (sz : Nat) (f : gh_F) (a dg : Nat) (wt : Int32) (st : Nat × Int32) (x : Int32) (hx9 : chr x) (hw : wS E f a dg wt st) : gh_M l y_Wr_writeSign b_Wr_writeSign 2 none E sz [.ref a, .int x] f { frames := 1, cells := 0, slots := 0, locals := 20 } (fun r g => r = none ∧ wS E g a dg wt (wr_c wt st x) ∧ gh_fr f g (fun b => b = a)) := by
  obtain ⟨hwa, hh, hwd⟩ := hw
  refine gh_open (by decide) (Nat.le_of_ble_eq_true rfl) ?_
  intro p e s m args below meth c A ls hAe C V hr hlocks hname hl
  have hx := C.1
  have hb := C.2.1
  have hl : lv_has ls 2 [(0, .ref a), (1, .int x)] := hl
  have hfr : gh_fr f f (fun b => b ∈ ([a] : List Nat)) := gh_fr.rf
  refine lv_aload_n hx hb d_Wr_writeSign_0 rfl (lv_at hl 0 rfl) ?_
  refine gh_get C V hwa gc_Wr gi_Wr 3 (by decide) f_Wr_21 rfl rfl d_Wr_writeSign_1 ?_
  refine lv_aload_n hx hb d_Wr_writeSign_4 rfl (lv_at hl 0 rfl) ?_
  refine gh_get C V hwa gc_Wr gi_Wr 1 (by decide) f_Wr_13 rfl rfl d_Wr_writeSign_5 ?_
  refine lv_icmp_ne (tgt := 16) hx hb d_Wr_writeSign_8 (by decide) (fun c1 => ?_) (fun c1 => ?_)
  · refine lv_aload_n hx hb d_Wr_writeSign_16 rfl (lv_at hl 0 rfl) ?_
    refine lv_dup hx hb d_Wr_writeSign_17 rfl ?_
    refine gh_get C V hwa gc_Wr gi_Wr 3 (by decide) f_Wr_21 rfl rfl d_Wr_writeSign_18 ?_
    refine lv_iconst (v := 1) hx hb d_Wr_writeSign_21 (by decide) ?_
    refine gn_iadd (a := st.1) (b := 1) hx hb d_Wr_writeSign_22 ?_
    refine gh_put C V hwa gc_Wr gi_Wr ty_Wr nm_Wr 3 (by decide) f_Wr_21 rfl (by first | rfl | decide) (by first | rfl | decide) (Nat.le_of_ble_eq_true rfl) d_Wr_writeSign_23 (fun H locs V => ?_)
    obtain ⟨f2, hff2⟩ : ∃ z9 : gh_F, z9 = gh_u f a (.inr (8, [.ref dg, .int wt, .int st.2, .int (nI (st.1 + 1))])) := ⟨_, rfl⟩
    have V : gh_V E A f2 s H locs := by rw [hff2]; exact V
    have hfr : gh_fr f f2 (fun b => b ∈ ([a] : List Nat)) := by rw [hff2]; exact hfr.put (Or.inl (by simp))
    have h_dg_f2 : f2 dg = some (.inl (E.2.2.1 2, 19, .inl hh)) := by rw [hff2, gh_un (gh_nek hwd hwa (show (100 : Nat) ≠ 8 by decide))]; exact hwd
    have h_a_f2 : f2 a = some (.inr (8, [.ref dg, .int wt, .int st.2, .int (nI (st.1 + 1))])) := by rw [hff2, gh_us]
    refine gh_retv hAe C V hr hlocks d_Wr_writeSign_26 (by first | decide | omega | (dsimp only; omega)) (by first | decide | omega | (dsimp only; omega)) ?_
    refine ⟨rfl, ⟨?_, _, h_dg_f2⟩, hfr.wide (fun b hb => List.mem_singleton.mp hb)⟩
    unfold wr_c
    rw [if_neg c1]
    exact h_a_f2
  · refine lv_aload_n hx hb d_Wr_writeSign_11 rfl (lv_at hl 0 rfl) ?_
    refine lv_iload_n hx hb d_Wr_writeSign_12 rfl (lv_at hl 1 rfl) ?_
    refine gh_put C V hwa gc_Wr gi_Wr ty_Wr nm_Wr 2 (by decide) f_Wr_17 rfl hx9.nar hx9.fit (Nat.le_of_ble_eq_true rfl) d_Wr_writeSign_13 (fun H locs V => ?_)
    obtain ⟨f3, hff3⟩ : ∃ z9 : gh_F, z9 = gh_u f a (.inr (8, [.ref dg, .int wt, .int x, .int (nI st.1)])) := ⟨_, rfl⟩
    have V : gh_V E A f3 s H locs := by rw [hff3]; exact V
    have hfr : gh_fr f f3 (fun b => b ∈ ([a] : List Nat)) := by rw [hff3]; exact hfr.put (Or.inl (by simp))
    have h_dg_f3 : f3 dg = some (.inl (E.2.2.1 2, 19, .inl hh)) := by rw [hff3, gh_un (gh_nek hwd hwa (show (100 : Nat) ≠ 8 by decide))]; exact hwd
    have h_a_f3 : f3 a = some (.inr (8, [.ref dg, .int wt, .int x, .int (nI st.1)])) := by rw [hff3, gh_us]
    refine lv_aload_n hx hb d_Wr_writeSign_16 rfl (lv_at hl 0 rfl) ?_
    refine lv_dup hx hb d_Wr_writeSign_17 rfl ?_
    refine gh_get C V h_a_f3 gc_Wr gi_Wr 3 (by decide) f_Wr_21 rfl rfl d_Wr_writeSign_18 ?_
    refine lv_iconst (v := 1) hx hb d_Wr_writeSign_21 (by decide) ?_
    refine gn_iadd (a := st.1) (b := 1) hx hb d_Wr_writeSign_22 ?_
    refine gh_put C V h_a_f3 gc_Wr gi_Wr ty_Wr nm_Wr 3 (by decide) f_Wr_21 rfl (by first | rfl | decide) (by first | rfl | decide) (Nat.le_of_ble_eq_true rfl) d_Wr_writeSign_23 (fun H locs V => ?_)
    obtain ⟨f4, hff4⟩ : ∃ z9 : gh_F, z9 = gh_u f3 a (.inr (8, [.ref dg, .int wt, .int x, .int (nI (st.1 + 1))])) := ⟨_, rfl⟩
    have V : gh_V E A f4 s H locs := by rw [hff4]; exact V
    have hfr : gh_fr f f4 (fun b => b ∈ ([a] : List Nat)) := by rw [hff4]; exact hfr.put (Or.inl (by simp))
    have h_dg_f4 : f4 dg = some (.inl (E.2.2.1 2, 19, .inl hh)) := by rw [hff4, gh_un (gh_nek h_dg_f3 h_a_f3 (show (100 : Nat) ≠ 8 by decide))]; exact h_dg_f3
    have h_a_f4 : f4 a = some (.inr (8, [.ref dg, .int wt, .int x, .int (nI (st.1 + 1))])) := by rw [hff4, gh_us]
    refine gh_retv hAe C V hr hlocks d_Wr_writeSign_26 (by first | decide | omega | (dsimp only; omega)) (by first | decide | omega | (dsimp only; omega)) ?_
    refine ⟨rfl, ⟨?_, _, h_dg_f4⟩, hfr.wide (fun b hb => List.mem_singleton.mp hb)⟩
    unfold wr_c
    rw [if_pos c1]
    exact h_a_f4
theorem d_Wr_writeWord_0 : decode b_Wr_writeWord 0 = .ok (.iconst 0, 1) := by decide +kernel
theorem d_Wr_writeWord_1 : decode b_Wr_writeWord 1 = .ok (.istore_n 2, 1) := by decide +kernel
theorem d_Wr_writeWord_2 : decode b_Wr_writeWord 2 = .ok (.iload_n 2, 1) := by decide +kernel
theorem d_Wr_writeWord_3 : decode b_Wr_writeWord 3 = .ok (.aload_n 1, 1) := by decide +kernel
theorem d_Wr_writeWord_4 : decode b_Wr_writeWord 4 = .ok (.invokevirtual 80, 3) := by decide +kernel
theorem d_Wr_writeWord_7 : decode b_Wr_writeWord 7 = .ok (.if_icmp .ge 18, 3) := by decide +kernel
theorem d_Wr_writeWord_10 : decode b_Wr_writeWord 10 = .ok (.aload_n 0, 1) := by decide +kernel
theorem d_Wr_writeWord_11 : decode b_Wr_writeWord 11 = .ok (.aload_n 1, 1) := by decide +kernel
theorem d_Wr_writeWord_12 : decode b_Wr_writeWord 12 = .ok (.iload_n 2, 1) := by decide +kernel
theorem d_Wr_writeWord_13 : decode b_Wr_writeWord 13 = .ok (.invokevirtual 85, 3) := by decide +kernel
theorem d_Wr_writeWord_16 : decode b_Wr_writeWord 16 = .ok (.invokevirtual 58, 3) := by decide +kernel
theorem d_Wr_writeWord_19 : decode b_Wr_writeWord 19 = .ok (.iinc 2 1, 3) := by decide +kernel
theorem d_Wr_writeWord_22 : decode b_Wr_writeWord 22 = .ok (.goto (-20), 3) := by decide +kernel
theorem d_Wr_writeWord_25 : decode b_Wr_writeWord 25 = .ok (.return_, 1) := by decide +kernel
theorem sc_take {i k : Nat} (h : k < (sc_b.getD i []).length) : (sc_b.getD i []).take (k + 1) = (sc_b.getD i []).take k ++ [sc_c i k] := li_take h
set_option maxHeartbeats 4000000 in
set_option maxRecDepth 100000 in
theorem c_Wr_writeWord (l : Launch) (E : gh_E) (sz : Nat) (f : gh_F) (a dg : Nat) (wt : Int32) (st : Nat × Int32) (i0 : Nat) (hi0 : i0 < 3) (hw : wS E f a dg wt st) : gh_M l y_Wr_writeWord b_Wr_writeWord 3 none E sz [.ref a, .ref (E.2.2.2 (2 + i0))] f { frames := 11, cells := 0, slots := 0, locals := 240 } (fun r g => r = none ∧ wS E g a dg wt (wr_l wt st ((sc_b.getD i0 []))) ∧ gh_fr f g (wM a dg)) := by
  refine gh_open (by decide) (Nat.le_of_ble_eq_true rfl) ?_
  intro p e s m args below meth c A ls hAe C V hr hlocks hname hl
  have hx := C.1
  have hb := C.2.1
  have hl : lv_has ls 3 [(0, .ref a), (1, .ref (E.2.2.2 (2 + i0)))] := hl
  have hn5 := sc_n5 i0
  have hln := sc_len i0 hi0
  have hfr : gh_fr f f (wM a dg) := gh_fr.rf
  refine lv_iconst (v := 0) hx hb d_Wr_writeWord_0 (by decide) ?_
  refine lv_istore_n hx hb d_Wr_writeWord_1 rfl hl (by decide) rfl (fun ls hl => ?_)
  have hl : lv_has ls 3 [(2, .int 0), (0, .ref a), (1, .ref (E.2.2.2 (2 + i0)))] := hl
  have hl : lv_has ls 3 [(2, .int 0), (0, .ref a), (1, .ref (E.2.2.2 (2 + i0)))] := lv_sub hl [0, 1, 2] rfl
  have hl : lv_has ls 3 [(2, .int (nI 0)), (0, .ref a), (1, .ref (E.2.2.2 (2 + i0)))] := hl
  have loop : ∀ (n9 i9 : Nat) (f1 : gh_F) (H : Heap) (locs : List Loc) (ls : Array Slot), i9 + n9 = sc_n i0 → wS E f1 a dg wt (wr_l wt st ((sc_b.getD i0 []).take i9)) → gh_fr f f1 (wM a dg) → gh_V E A f1 s H locs → lv_has ls 3 [(2, .int (nI i9)), (0, .ref a), (1, .ref (E.2.2.2 (2 + i0)))] → W p l e { frames := 11, cells := 0, slots := 0, locals := 240 } s m args below meth c H locs 0 0 (MQ below (gh_Q E f (fun r g => r = none ∧ wS E g a dg wt (wr_l wt st ((sc_b.getD i0 []))) ∧ gh_fr f g (wM a dg))) args s 0 0 A) (F0 m 2 ls []) := by
    intro n9
    induction n9 with
    | zero =>
      intro i9 f1 H locs ls hi hw hfr V hl
      refine lv_iload_n hx hb d_Wr_writeWord_2 rfl (lv_at hl 0 rfl) ?_
      refine lv_aload_n hx hb d_Wr_writeWord_3 rfl (lv_at hl 2 rfl) ?_
      refine gs_call C V hl.1 m_jS_length l_Wr_80 (c_jS_length l E _ _ i0 hi0) rfl hi0 rfl ⟨by first | decide | omega | (dsimp only; omega), by first | decide | omega | (dsimp only; omega)⟩ ⟨by first | decide | omega | (dsimp only; omega), by first | decide | omega | (dsimp only; omega)⟩ (Nat.le_of_ble_eq_true rfl) rfl d_Wr_writeWord_4 (fun r g1_ H locs hp9 V1 => ?_)
      obtain ⟨rfl, he9⟩ := hp9
      rw [he9] at V1
      have V := V1
      refine W.eq (g2 := F0 m 7 ls [.int (nI (sc_n i0)), .int (nI i9)]) rfl ?_
      have hi9 : i9 = sc_n i0 := by omega
      rw [hi9, ← hln, List.take_length] at hw
      refine lv_icmp_ge (tgt := 25) hx hb d_Wr_writeWord_7 (by decide) (fun c1 => ?_) (fun c1 => absurd (nI_le (by omega) (by omega)) c1)
      refine gh_retv hAe C V hr hlocks d_Wr_writeWord_25 (by first | decide | omega | (dsimp only; omega)) (by first | decide | omega | (dsimp only; omega)) ?_
      exact ⟨rfl, hw, hfr⟩
    | succ n9 ih =>
      intro i9 f1 H locs ls hi hw hfr V hl
      refine lv_iload_n hx hb d_Wr_writeWord_2 rfl (lv_at hl 0 rfl) ?_
      refine lv_aload_n hx hb d_Wr_writeWord_3 rfl (lv_at hl 2 rfl) ?_
      refine gs_call C V hl.1 m_jS_length l_Wr_80 (c_jS_length l E _ _ i0 hi0) rfl hi0 rfl ⟨by first | decide | omega | (dsimp only; omega), by first | decide | omega | (dsimp only; omega)⟩ ⟨by first | decide | omega | (dsimp only; omega), by first | decide | omega | (dsimp only; omega)⟩ (Nat.le_of_ble_eq_true rfl) rfl d_Wr_writeWord_4 (fun r g2_ H locs hp9 V1 => ?_)
      obtain ⟨rfl, he9⟩ := hp9
      rw [he9] at V1
      have V := V1
      refine W.eq (g2 := F0 m 7 ls [.int (nI (sc_n i0)), .int (nI i9)]) rfl ?_
      refine lv_icmp_ge (tgt := 25) hx hb d_Wr_writeWord_7 (by decide) (fun c2 => absurd c2 (nI_ge (by omega) (by omega))) (fun c2 => ?_)
      refine lv_aload_n hx hb d_Wr_writeWord_10 rfl (lv_at hl 1 rfl) ?_
      refine lv_aload_n hx hb d_Wr_writeWord_11 rfl (lv_at hl 2 rfl) ?_
      refine lv_iload_n hx hb d_Wr_writeWord_12 rfl (lv_at hl 0 rfl) ?_
      refine gs_call C V hl.1 m_jS_charAt l_Wr_85 (c_jS_charAt l E _ _ i0 i9 hi0 (by omega)) rfl hi0 rfl ⟨by first | decide | omega | (dsimp only; omega), by first | decide | omega | (dsimp only; omega)⟩ ⟨by first | decide | omega | (dsimp only; omega), by first | decide | omega | (dsimp only; omega)⟩ (Nat.le_of_ble_eq_true rfl) rfl d_Wr_writeWord_13 (fun r g3_ H locs hp9 V1 => ?_)
      obtain ⟨rfl, he9⟩ := hp9
      rw [he9] at V1
      have V := V1
      refine W.eq (g2 := F0 m 16 ls [.int (sc_c i0 i9), .ref a]) rfl ?_
      refine gh_callV C V hl.1 m_Wr_writeSign l_Wr_58 (c_Wr_writeSign l E _ _ a dg wt _ (sc_c i0 i9) (sc_chr i0 hi0 i9 (by omega)) hw) rfl hw.1 gc_Wr ⟨by first | decide | omega | (dsimp only; omega), by first | decide | omega | (dsimp only; omega)⟩ ⟨by first | decide | omega | (dsimp only; omega), by first | decide | omega | (dsimp only; omega)⟩ (Nat.le_of_ble_eq_true rfl) rfl d_Wr_writeWord_16 (fun r fw4 H locs hp9 V1 => ?_)
      obtain ⟨rfl, hw2, hfr2⟩ := hp9
      have V := V1
      refine W.eq (g2 := F0 m 19 ls []) rfl ?_
      have hfr := wM.tr hfr (hfr2.wide (fun b hb => Or.inl hb))
      have hw : wS E fw4 a dg wt (wr_l wt st (((sc_b.getD i0 []).take i9) ++ [sc_c i0 i9])) := by rw [wr_l_snoc]; exact hw2
      refine lv_iinc (k := 0) (v := (nI i9) + 1) hx hb d_Wr_writeWord_19 hl rfl (by rfl) (by decide) rfl (fun ls hl => ?_)
      have hl : lv_has ls 3 [(2, .int (nI (i9 + 1))), (0, .ref a), (1, .ref (E.2.2.2 (2 + i0)))] := by rw [nI_succ]; exact hl
      refine lv_goto (tgt := 2) hx hb d_Wr_writeWord_22 (by decide) ?_
      have hl : lv_has ls 3 [(2, .int (nI (i9 + 1))), (0, .ref a), (1, .ref (E.2.2.2 (2 + i0)))] := lv_sub hl [0, 1, 2] rfl
      have hl : lv_has ls 3 [(2, .int (nI (i9 + 1))), (0, .ref a), (1, .ref (E.2.2.2 (2 + i0)))] := hl
      exact ih (i9 + 1) _ _ _ ls (by omega) (by rw [sc_take (by omega)]; exact hw) hfr V hl
  exact loop (sc_n i0) 0 f _ _ ls (by omega) hw hfr V hl
theorem d_Wr_writeString_0 : decode b_Wr_writeString 0 = .ok (.aload_n 0, 1) := by decide +kernel
theorem d_Wr_writeString_1 : decode b_Wr_writeString 1 = .ok (.bipush 34, 2) := by decide +kernel
theorem d_Wr_writeString_3 : decode b_Wr_writeString 3 = .ok (.invokevirtual 58, 3) := by decide +kernel
theorem d_Wr_writeString_6 : decode b_Wr_writeString 6 = .ok (.iconst 0, 1) := by decide +kernel
theorem d_Wr_writeString_7 : decode b_Wr_writeString 7 = .ok (.istore_n 2, 1) := by decide +kernel
theorem d_Wr_writeString_8 : decode b_Wr_writeString 8 = .ok (.iload_n 2, 1) := by decide +kernel
theorem d_Wr_writeString_9 : decode b_Wr_writeString 9 = .ok (.aload_n 1, 1) := by decide +kernel
theorem d_Wr_writeString_10 : decode b_Wr_writeString 10 = .ok (.getfield 69, 3) := by decide +kernel
theorem d_Wr_writeString_13 : decode b_Wr_writeString 13 = .ok (.arraylength, 1) := by decide +kernel
theorem d_Wr_writeString_14 : decode b_Wr_writeString 14 = .ok (.if_icmp .ge 39, 3) := by decide +kernel
theorem d_Wr_writeString_17 : decode b_Wr_writeString 17 = .ok (.aload_n 1, 1) := by decide +kernel
theorem d_Wr_writeString_18 : decode b_Wr_writeString 18 = .ok (.getfield 69, 3) := by decide +kernel
theorem d_Wr_writeString_21 : decode b_Wr_writeString 21 = .ok (.iload_n 2, 1) := by decide +kernel
theorem d_Wr_writeString_22 : decode b_Wr_writeString 22 = .ok (.caload, 1) := by decide +kernel
theorem d_Wr_writeString_23 : decode b_Wr_writeString 23 = .ok (.istore_n 3, 1) := by decide +kernel
theorem d_Wr_writeString_24 : decode b_Wr_writeString 24 = .ok (.iload_n 3, 1) := by decide +kernel
theorem d_Wr_writeString_25 : decode b_Wr_writeString 25 = .ok (.bipush 34, 2) := by decide +kernel
theorem d_Wr_writeString_27 : decode b_Wr_writeString 27 = .ok (.if_icmp .eq 9, 3) := by decide +kernel
theorem d_Wr_writeString_30 : decode b_Wr_writeString 30 = .ok (.iload_n 3, 1) := by decide +kernel
theorem d_Wr_writeString_31 : decode b_Wr_writeString 31 = .ok (.bipush 92, 2) := by decide +kernel
theorem d_Wr_writeString_33 : decode b_Wr_writeString 33 = .ok (.if_icmp .ne 9, 3) := by decide +kernel
theorem d_Wr_writeString_36 : decode b_Wr_writeString 36 = .ok (.aload_n 0, 1) := by decide +kernel
theorem d_Wr_writeString_37 : decode b_Wr_writeString 37 = .ok (.bipush 92, 2) := by decide +kernel
theorem d_Wr_writeString_39 : decode b_Wr_writeString 39 = .ok (.invokevirtual 58, 3) := by decide +kernel
theorem d_Wr_writeString_42 : decode b_Wr_writeString 42 = .ok (.aload_n 0, 1) := by decide +kernel
theorem d_Wr_writeString_43 : decode b_Wr_writeString 43 = .ok (.iload_n 3, 1) := by decide +kernel
theorem d_Wr_writeString_44 : decode b_Wr_writeString 44 = .ok (.invokevirtual 58, 3) := by decide +kernel
theorem d_Wr_writeString_47 : decode b_Wr_writeString 47 = .ok (.iinc 2 1, 3) := by decide +kernel
theorem d_Wr_writeString_50 : decode b_Wr_writeString 50 = .ok (.goto (-42), 3) := by decide +kernel
theorem d_Wr_writeString_53 : decode b_Wr_writeString 53 = .ok (.aload_n 0, 1) := by decide +kernel
theorem d_Wr_writeString_54 : decode b_Wr_writeString 54 = .ok (.bipush 34, 2) := by decide +kernel
theorem d_Wr_writeString_56 : decode b_Wr_writeString 56 = .ok (.invokevirtual 58, 3) := by decide +kernel
theorem d_Wr_writeString_59 : decode b_Wr_writeString 59 = .ok (.return_, 1) := by decide +kernel
set_option maxHeartbeats 4000000 in
set_option maxRecDepth 100000 in
theorem c_Wr_writeString (l : Launch) (E : gh_E) (sz : Nat) (f : gh_F) (a dg : Nat) (wt : Int32) (st : Nat × Int32) (P : Nat → Prop) (v la : Nat) (L : List Int32) (x0 x1 x3 x4 x5 x6 : Value) (hPa : ¬ P a) (hPd : ¬ P dg) (hv6 : f v = some (.inr (6, [x0, x1, .ref la, x3, x4, x5, x6]))) (hPv : P v) (hlt : lt_A E P f la L) (hok : lt_ok L) (hw : wS E f a dg wt st) : gh_M l y_Wr_writeString b_Wr_writeString 4 none E sz [.ref a, .ref v] f { frames := 3, cells := 0, slots := 0, locals := 60 } (fun r g => r = none ∧ wS E g a dg wt (wr_l wt st (wr_t L)) ∧ gh_fr f g (wM a dg)) := by
  refine gh_open (by decide) (Nat.le_of_ble_eq_true rfl) ?_
  intro p e s m args below meth c A ls hAe C V hr hlocks hname hl
  have hx := C.1
  have hb := C.2.1
  have hl : lv_has ls 4 [(0, .ref a), (1, .ref v)] := hl
  have hfr : gh_fr f f (wM a dg) := gh_fr.rf
  have hMP := wM.P hPa hPd
  have hl24 := hok.1
  refine lv_aload_n hx hb d_Wr_writeString_0 rfl (lv_at hl 0 rfl) ?_
  refine lv_bipush (v := 34) hx hb d_Wr_writeString_1 (by decide) ?_
  refine gh_callV C V hl.1 m_Wr_writeSign l_Wr_58 (c_Wr_writeSign l E _ _ a dg wt _ (34) ⟨34, by decide, rfl⟩ hw) rfl hw.1 gc_Wr ⟨by first | decide | omega | (dsimp only; omega), by first | decide | omega | (dsimp only; omega)⟩ ⟨by first | decide | omega | (dsimp only; omega), by first | decide | omega | (dsimp only; omega)⟩ (Nat.le_of_ble_eq_true rfl) rfl d_Wr_writeString_3 (fun r fw1 H locs hp9 V1 => ?_)
  obtain ⟨rfl, hw2, hfr2⟩ := hp9
  have V := V1
  refine W.eq (g2 := F0 m 6 ls []) rfl ?_
  have hfr := wM.tr hfr (hfr2.wide (fun b hb => Or.inl hb))
  have hw : wS E fw1 a dg wt (wr_l wt st (([]) ++ [34])) := by rw [wr_l_snoc]; exact hw2
  refine lv_iconst (v := 0) hx hb d_Wr_writeString_6 (by decide) ?_
  refine lv_istore_n hx hb d_Wr_writeString_7 rfl hl (by decide) rfl (fun ls hl => ?_)
  have hl : lv_has ls 4 [(2, .int 0), (0, .ref a), (1, .ref v)] := hl
  have hl : lv_has ls 4 [(2, .int 0), (0, .ref a), (1, .ref v)] := lv_sub hl [0, 1, 2] rfl
  have hl : lv_has ls 4 [(2, .int (nI 0)), (0, .ref a), (1, .ref v)] := hl
  have loop : ∀ (n9 i9 : Nat) (f1 : gh_F) (H : Heap) (locs : List Loc) (ls : Array Slot), i9 + n9 = L.length → wS E f1 a dg wt (wr_l wt st ([34] ++ wr_s L i9)) → gh_fr f f1 (wM a dg) → gh_V E A f1 s H locs → lv_has ls 4 [(2, .int (nI i9)), (0, .ref a), (1, .ref v)] → W p l e { frames := 3, cells := 0, slots := 0, locals := 60 } s m args below meth c H locs 0 0 (MQ below (gh_Q E f (fun r g => r = none ∧ wS E g a dg wt (wr_l wt st (wr_t L)) ∧ gh_fr f g (wM a dg))) args s 0 0 A) (F0 m 8 ls []) := by
    intro n9
    induction n9 with
    | zero =>
      intro i9 f1 H locs ls hi hw hfr V hl
      have hv1 := hfr.at hv6 (fun z => hMP v z hPv)
      have hlt1 := hlt.keep hfr hMP
      have hi9 : i9 = L.length := by omega
      rw [hi9] at hw
      refine lv_iload_n hx hb d_Wr_writeString_8 rfl (lv_at hl 0 rfl) ?_
      refine lv_aload_n hx hb d_Wr_writeString_9 rfl (lv_at hl 2 rfl) ?_
      refine gh_get C V hv1 gc_Va gi_Va 2 (by decide) f_Wr_69 rfl rfl d_Wr_writeString_10 ?_
      refine lt_len C V hlt1 d_Wr_writeString_13 ?_
      refine lv_icmp_ge (tgt := 53) hx hb d_Wr_writeString_14 (by decide) (fun c1 => ?_) (fun c1 => absurd (nI_le (by omega) (by omega)) c1)
      refine lv_aload_n hx hb d_Wr_writeString_53 rfl (lv_at hl 1 rfl) ?_
      refine lv_bipush (v := 34) hx hb d_Wr_writeString_54 (by decide) ?_
      refine gh_callV C V hl.1 m_Wr_writeSign l_Wr_58 (c_Wr_writeSign l E _ _ a dg wt _ (34) ⟨34, by decide, rfl⟩ hw) rfl hw.1 gc_Wr ⟨by first | decide | omega | (dsimp only; omega), by first | decide | omega | (dsimp only; omega)⟩ ⟨by first | decide | omega | (dsimp only; omega), by first | decide | omega | (dsimp only; omega)⟩ (Nat.le_of_ble_eq_true rfl) rfl d_Wr_writeString_56 (fun r fw2 H locs hp9 V1 => ?_)
      obtain ⟨rfl, hw2, hfr2⟩ := hp9
      have V := V1
      refine W.eq (g2 := F0 m 59 ls []) rfl ?_
      have hfr := wM.tr hfr (hfr2.wide (fun b hb => Or.inl hb))
      have hw : wS E fw2 a dg wt (wr_l wt st (([34] ++ wr_s L L.length) ++ [34])) := by rw [wr_l_snoc]; exact hw2
      refine gh_retv hAe C V hr hlocks d_Wr_writeString_59 (by first | decide | omega | (dsimp only; omega)) (by first | decide | omega | (dsimp only; omega)) ?_
      exact ⟨rfl, hw, hfr⟩
    | succ n9 ih =>
      intro i9 f1 H locs ls hi hw hfr V hl
      have hv1 := hfr.at hv6 (fun z => hMP v z hPv)
      have hlt1 := hlt.keep hfr hMP
      refine lv_iload_n hx hb d_Wr_writeString_8 rfl (lv_at hl 0 rfl) ?_
      refine lv_aload_n hx hb d_Wr_writeString_9 rfl (lv_at hl 2 rfl) ?_
      refine gh_get C V hv1 gc_Va gi_Va 2 (by decide) f_Wr_69 rfl rfl d_Wr_writeString_10 ?_
      refine lt_len C V hlt1 d_Wr_writeString_13 ?_
      refine lv_icmp_ge (tgt := 53) hx hb d_Wr_writeString_14 (by decide) (fun c2 => absurd c2 (nI_ge (by omega) (by omega))) (fun c2 => ?_)
      refine lv_aload_n hx hb d_Wr_writeString_17 rfl (lv_at hl 2 rfl) ?_
      refine gh_get C V hv1 gc_Va gi_Va 2 (by decide) f_Wr_69 rfl rfl d_Wr_writeString_18 ?_
      refine lv_iload_n hx hb d_Wr_writeString_21 rfl (lv_at hl 0 rfl) ?_
      refine lt_ld (i := i9) C V hlt1 (by omega) (by omega) d_Wr_writeString_22 ?_
      refine lv_istore_n hx hb d_Wr_writeString_23 rfl hl (by decide) rfl (fun ls hl => ?_)
      have hl : lv_has ls 4 [(3, .int (L.getD i9 0)), (2, .int (nI i9)), (0, .ref a), (1, .ref v)] := hl
      have hch := hok.chr (j := i9) (by omega)
      rcases (show L.getD i9 0 = 34 ∨ (¬ L.getD i9 0 = 34 ∧ L.getD i9 0 = 92) ∨ (¬ L.getD i9 0 = 34 ∧ ¬ L.getD i9 0 = 92) by by_cases z1 : L.getD i9 0 = 34; exact Or.inl z1; exact Or.inr (by by_cases z2 : L.getD i9 0 = 92; exact Or.inl ⟨z1, z2⟩; exact Or.inr ⟨z1, z2⟩)) with hq | hq | hq
      · refine lv_iload_n hx hb d_Wr_writeString_24 rfl (lv_at hl 0 rfl) ?_
        refine lv_bipush (v := 34) hx hb d_Wr_writeString_25 (by decide) ?_
        refine lv_icmp_eq (tgt := 36) hx hb d_Wr_writeString_27 (by decide) (fun c3 => ?_) (fun c3 => absurd hq c3)
        refine lv_aload_n hx hb d_Wr_writeString_36 rfl (lv_at hl 2 rfl) ?_
        refine lv_bipush (v := 92) hx hb d_Wr_writeString_37 (by decide) ?_
        refine gh_callV C V hl.1 m_Wr_writeSign l_Wr_58 (c_Wr_writeSign l E _ _ a dg wt _ (92) ⟨92, by decide, rfl⟩ hw) rfl hw.1 gc_Wr ⟨by first | decide | omega | (dsimp only; omega), by first | decide | omega | (dsimp only; omega)⟩ ⟨by first | decide | omega | (dsimp only; omega), by first | decide | omega | (dsimp only; omega)⟩ (Nat.le_of_ble_eq_true rfl) rfl d_Wr_writeString_39 (fun r fw3 H locs hp9 V1 => ?_)
        obtain ⟨rfl, hw2, hfr2⟩ := hp9
        have V := V1
        refine W.eq (g2 := F0 m 42 ls []) rfl ?_
        have hfr := wM.tr hfr (hfr2.wide (fun b hb => Or.inl hb))
        have hw : wS E fw3 a dg wt (wr_l wt st (([34] ++ wr_s L i9) ++ [92])) := by rw [wr_l_snoc]; exact hw2
        refine lv_aload_n hx hb d_Wr_writeString_42 rfl (lv_at hl 2 rfl) ?_
        refine lv_iload_n hx hb d_Wr_writeString_43 rfl (lv_at hl 0 rfl) ?_
        refine gh_callV C V hl.1 m_Wr_writeSign l_Wr_58 (c_Wr_writeSign l E _ _ a dg wt _ (L.getD i9 0) hch hw) rfl hw.1 gc_Wr ⟨by first | decide | omega | (dsimp only; omega), by first | decide | omega | (dsimp only; omega)⟩ ⟨by first | decide | omega | (dsimp only; omega), by first | decide | omega | (dsimp only; omega)⟩ (Nat.le_of_ble_eq_true rfl) rfl d_Wr_writeString_44 (fun r fw4 H locs hp9 V1 => ?_)
        obtain ⟨rfl, hw2, hfr2⟩ := hp9
        have V := V1
        refine W.eq (g2 := F0 m 47 ls []) rfl ?_
        have hfr := wM.tr hfr (hfr2.wide (fun b hb => Or.inl hb))
        have hw : wS E fw4 a dg wt (wr_l wt st (([34] ++ wr_s L i9 ++ [92]) ++ [L.getD i9 0])) := by rw [wr_l_snoc]; exact hw2
        refine lv_iinc (k := 1) (v := (nI i9) + 1) hx hb d_Wr_writeString_47 hl rfl (by rfl) (by decide) rfl (fun ls hl => ?_)
        have hl : lv_has ls 4 [(2, .int (nI (i9 + 1))), (3, .int (L.getD i9 0)), (0, .ref a), (1, .ref v)] := by rw [nI_succ]; exact hl
        refine lv_goto (tgt := 8) hx hb d_Wr_writeString_50 (by decide) ?_
        have hl : lv_has ls 4 [(2, .int (nI (i9 + 1))), (0, .ref a), (1, .ref v)] := lv_sub hl [0, 2, 3] rfl
        have hl : lv_has ls 4 [(2, .int (nI (i9 + 1))), (0, .ref a), (1, .ref v)] := hl
        have hwe : wr_e (L.getD i9 0) = [92, L.getD i9 0] := if_pos (Or.inl hq)
        have hws : [34] ++ wr_s L (i9 + 1) = [34] ++ wr_s L i9 ++ [92] ++ [L.getD i9 0] := by show [34] ++ (wr_s L i9 ++ wr_e (L.getD i9 0)) = _; rw [hwe]; simp only [List.append_assoc, List.cons_append, List.nil_append]
        exact ih (i9 + 1) _ _ _ ls (by omega) (by rw [hws]; exact hw) hfr V hl
      · refine lv_iload_n hx hb d_Wr_writeString_24 rfl (lv_at hl 0 rfl) ?_
        refine lv_bipush (v := 34) hx hb d_Wr_writeString_25 (by decide) ?_
        refine lv_icmp_eq (tgt := 36) hx hb d_Wr_writeString_27 (by decide) (fun c4 => absurd c4 hq.1) (fun c4 => ?_)
        refine lv_iload_n hx hb d_Wr_writeString_30 rfl (lv_at hl 0 rfl) ?_
        refine lv_bipush (v := 92) hx hb d_Wr_writeString_31 (by decide) ?_
        refine lv_icmp_ne (tgt := 42) hx hb d_Wr_writeString_33 (by decide) (fun c5 => absurd hq.2 c5) (fun c5 => ?_)
        refine lv_aload_n hx hb d_Wr_writeString_36 rfl (lv_at hl 2 rfl) ?_
        refine lv_bipush (v := 92) hx hb d_Wr_writeString_37 (by decide) ?_
        refine gh_callV C V hl.1 m_Wr_writeSign l_Wr_58 (c_Wr_writeSign l E _ _ a dg wt _ (92) ⟨92, by decide, rfl⟩ hw) rfl hw.1 gc_Wr ⟨by first | decide | omega | (dsimp only; omega), by first | decide | omega | (dsimp only; omega)⟩ ⟨by first | decide | omega | (dsimp only; omega), by first | decide | omega | (dsimp only; omega)⟩ (Nat.le_of_ble_eq_true rfl) rfl d_Wr_writeString_39 (fun r fw5 H locs hp9 V1 => ?_)
        obtain ⟨rfl, hw2, hfr2⟩ := hp9
        have V := V1
        refine W.eq (g2 := F0 m 42 ls []) rfl ?_
        have hfr := wM.tr hfr (hfr2.wide (fun b hb => Or.inl hb))
        have hw : wS E fw5 a dg wt (wr_l wt st (([34] ++ wr_s L i9) ++ [92])) := by rw [wr_l_snoc]; exact hw2
        refine lv_aload_n hx hb d_Wr_writeString_42 rfl (lv_at hl 2 rfl) ?_
        refine lv_iload_n hx hb d_Wr_writeString_43 rfl (lv_at hl 0 rfl) ?_
        refine gh_callV C V hl.1 m_Wr_writeSign l_Wr_58 (c_Wr_writeSign l E _ _ a dg wt _ (L.getD i9 0) hch hw) rfl hw.1 gc_Wr ⟨by first | decide | omega | (dsimp only; omega), by first | decide | omega | (dsimp only; omega)⟩ ⟨by first | decide | omega | (dsimp only; omega), by first | decide | omega | (dsimp only; omega)⟩ (Nat.le_of_ble_eq_true rfl) rfl d_Wr_writeString_44 (fun r fw6 H locs hp9 V1 => ?_)
        obtain ⟨rfl, hw2, hfr2⟩ := hp9
        have V := V1
        refine W.eq (g2 := F0 m 47 ls []) rfl ?_
        have hfr := wM.tr hfr (hfr2.wide (fun b hb => Or.inl hb))
        have hw : wS E fw6 a dg wt (wr_l wt st (([34] ++ wr_s L i9 ++ [92]) ++ [L.getD i9 0])) := by rw [wr_l_snoc]; exact hw2
        refine lv_iinc (k := 1) (v := (nI i9) + 1) hx hb d_Wr_writeString_47 hl rfl (by rfl) (by decide) rfl (fun ls hl => ?_)
        have hl : lv_has ls 4 [(2, .int (nI (i9 + 1))), (3, .int (L.getD i9 0)), (0, .ref a), (1, .ref v)] := by rw [nI_succ]; exact hl
        refine lv_goto (tgt := 8) hx hb d_Wr_writeString_50 (by decide) ?_
        have hl : lv_has ls 4 [(2, .int (nI (i9 + 1))), (0, .ref a), (1, .ref v)] := lv_sub hl [0, 2, 3] rfl
        have hl : lv_has ls 4 [(2, .int (nI (i9 + 1))), (0, .ref a), (1, .ref v)] := hl
        have hwe : wr_e (L.getD i9 0) = [92, L.getD i9 0] := if_pos (Or.inr hq.2)
        have hws : [34] ++ wr_s L (i9 + 1) = [34] ++ wr_s L i9 ++ [92] ++ [L.getD i9 0] := by show [34] ++ (wr_s L i9 ++ wr_e (L.getD i9 0)) = _; rw [hwe]; simp only [List.append_assoc, List.cons_append, List.nil_append]
        exact ih (i9 + 1) _ _ _ ls (by omega) (by rw [hws]; exact hw) hfr V hl
      · refine lv_iload_n hx hb d_Wr_writeString_24 rfl (lv_at hl 0 rfl) ?_
        refine lv_bipush (v := 34) hx hb d_Wr_writeString_25 (by decide) ?_
        refine lv_icmp_eq (tgt := 36) hx hb d_Wr_writeString_27 (by decide) (fun c6 => absurd c6 hq.1) (fun c6 => ?_)
        refine lv_iload_n hx hb d_Wr_writeString_30 rfl (lv_at hl 0 rfl) ?_
        refine lv_bipush (v := 92) hx hb d_Wr_writeString_31 (by decide) ?_
        refine lv_icmp_ne (tgt := 42) hx hb d_Wr_writeString_33 (by decide) (fun c7 => ?_) (fun c7 => absurd c7 hq.2)
        refine lv_aload_n hx hb d_Wr_writeString_42 rfl (lv_at hl 2 rfl) ?_
        refine lv_iload_n hx hb d_Wr_writeString_43 rfl (lv_at hl 0 rfl) ?_
        refine gh_callV C V hl.1 m_Wr_writeSign l_Wr_58 (c_Wr_writeSign l E _ _ a dg wt _ (L.getD i9 0) hch hw) rfl hw.1 gc_Wr ⟨by first | decide | omega | (dsimp only; omega), by first | decide | omega | (dsimp only; omega)⟩ ⟨by first | decide | omega | (dsimp only; omega), by first | decide | omega | (dsimp only; omega)⟩ (Nat.le_of_ble_eq_true rfl) rfl d_Wr_writeString_44 (fun r fw7 H locs hp9 V1 => ?_)
        obtain ⟨rfl, hw2, hfr2⟩ := hp9
        have V := V1
        refine W.eq (g2 := F0 m 47 ls []) rfl ?_
        have hfr := wM.tr hfr (hfr2.wide (fun b hb => Or.inl hb))
        have hw : wS E fw7 a dg wt (wr_l wt st (([34] ++ wr_s L i9) ++ [L.getD i9 0])) := by rw [wr_l_snoc]; exact hw2
        refine lv_iinc (k := 1) (v := (nI i9) + 1) hx hb d_Wr_writeString_47 hl rfl (by rfl) (by decide) rfl (fun ls hl => ?_)
        have hl : lv_has ls 4 [(2, .int (nI (i9 + 1))), (3, .int (L.getD i9 0)), (0, .ref a), (1, .ref v)] := by rw [nI_succ]; exact hl
        refine lv_goto (tgt := 8) hx hb d_Wr_writeString_50 (by decide) ?_
        have hl : lv_has ls 4 [(2, .int (nI (i9 + 1))), (0, .ref a), (1, .ref v)] := lv_sub hl [0, 2, 3] rfl
        have hl : lv_has ls 4 [(2, .int (nI (i9 + 1))), (0, .ref a), (1, .ref v)] := hl
        have hwe : wr_e (L.getD i9 0) = [L.getD i9 0] := if_neg (fun z => by rcases z with z | z; exact hq.1 z; exact hq.2 z)
        have hws : [34] ++ wr_s L (i9 + 1) = [34] ++ wr_s L i9 ++ [L.getD i9 0] := by show [34] ++ (wr_s L i9 ++ wr_e (L.getD i9 0)) = _; rw [hwe]; simp only [List.append_assoc, List.cons_append, List.nil_append]
        exact ih (i9 + 1) _ _ _ ls (by omega) (by rw [hws]; exact hw) hfr V hl
  exact loop L.length 0 _ _ _ ls (by omega) hw hfr V hl
