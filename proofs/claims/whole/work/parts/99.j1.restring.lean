/-! Reader.readString. Printed by wip/whole/gen_re2.py. -/
def re_T (E : gh_E) (ρ Z tx : Nat → Nat) (n : Nat) (g : gh_F) (bd : Int32) (R : Nat × Option (List Int32)) (r : Option Value) : Prop := match R.2 with
  | none => r = some .null ∧ re_A E ρ Z tx n g R.1 (nI R.1)
  | some L => (∃ v, r = some (.ref v) ∧ cv_S E (rP ρ) g v L) ∧ re_A E ρ Z tx n g R.1 bd
theorem re_let {h : Nat → Int32} {L : List Int32} {x : Int32} (hh : ∀ j, j < L.length → h j = L.getD j 0) : ∀ j, j < (L ++ [x]).length → upd h L.length x j = (L ++ [x]).getD j 0 := by
  intro j hj
  rw [getD_ap1]
  simp only [upd]
  rw [List.length_append] at hj
  have hj : j < L.length + 1 := hj
  by_cases e : j = L.length
  · rw [if_pos e, if_neg (by omega), if_pos e]
  · rw [if_neg e, if_pos (by omega)]; exact hh j (by omega)
theorem d_Re_readString_0 : decode b_Re_readString 0 = .ok (.iconst 0, 1) := by decide +kernel
theorem d_Re_readString_1 : decode b_Re_readString 1 = .ok (.istore_n 1, 1) := by decide +kernel
theorem d_Re_readString_2 : decode b_Re_readString 2 = .ok (.aload_n 0, 1) := by decide +kernel
theorem d_Re_readString_3 : decode b_Re_readString 3 = .ok (.dup, 1) := by decide +kernel
theorem d_Re_readString_4 : decode b_Re_readString 4 = .ok (.getfield 42, 3) := by decide +kernel
theorem d_Re_readString_7 : decode b_Re_readString 7 = .ok (.iconst 1, 1) := by decide +kernel
theorem d_Re_readString_8 : decode b_Re_readString 8 = .ok (.iadd, 1) := by decide +kernel
theorem d_Re_readString_9 : decode b_Re_readString 9 = .ok (.putfield 42, 3) := by decide +kernel
theorem d_Re_readString_12 : decode b_Re_readString 12 = .ok (.aload_n 0, 1) := by decide +kernel
theorem d_Re_readString_13 : decode b_Re_readString 13 = .ok (.getfield 42, 3) := by decide +kernel
theorem d_Re_readString_16 : decode b_Re_readString 16 = .ok (.aload_n 0, 1) := by decide +kernel
theorem d_Re_readString_17 : decode b_Re_readString 17 = .ok (.getfield 39, 3) := by decide +kernel
theorem d_Re_readString_20 : decode b_Re_readString 20 = .ok (.if_icmp .ge 114, 3) := by decide +kernel
theorem d_Re_readString_23 : decode b_Re_readString 23 = .ok (.aload_n 0, 1) := by decide +kernel
theorem d_Re_readString_24 : decode b_Re_readString 24 = .ok (.getfield 30, 3) := by decide +kernel
theorem d_Re_readString_27 : decode b_Re_readString 27 = .ok (.aload_n 0, 1) := by decide +kernel
theorem d_Re_readString_28 : decode b_Re_readString 28 = .ok (.getfield 42, 3) := by decide +kernel
theorem d_Re_readString_31 : decode b_Re_readString 31 = .ok (.caload, 1) := by decide +kernel
theorem d_Re_readString_32 : decode b_Re_readString 32 = .ok (.istore_n 2, 1) := by decide +kernel
theorem d_Re_readString_33 : decode b_Re_readString 33 = .ok (.iload_n 2, 1) := by decide +kernel
theorem d_Re_readString_34 : decode b_Re_readString 34 = .ok (.bipush 34, 2) := by decide +kernel
theorem d_Re_readString_36 : decode b_Re_readString 36 = .ok (.if_icmp .ne 26, 3) := by decide +kernel
theorem d_Re_readString_39 : decode b_Re_readString 39 = .ok (.aload_n 0, 1) := by decide +kernel
theorem d_Re_readString_40 : decode b_Re_readString 40 = .ok (.dup, 1) := by decide +kernel
theorem d_Re_readString_41 : decode b_Re_readString 41 = .ok (.getfield 42, 3) := by decide +kernel
theorem d_Re_readString_44 : decode b_Re_readString 44 = .ok (.iconst 1, 1) := by decide +kernel
theorem d_Re_readString_45 : decode b_Re_readString 45 = .ok (.iadd, 1) := by decide +kernel
theorem d_Re_readString_46 : decode b_Re_readString 46 = .ok (.putfield 42, 3) := by decide +kernel
theorem d_Re_readString_49 : decode b_Re_readString 49 = .ok (.aload_n 0, 1) := by decide +kernel
theorem d_Re_readString_50 : decode b_Re_readString 50 = .ok (.getfield 7, 3) := by decide +kernel
theorem d_Re_readString_53 : decode b_Re_readString 53 = .ok (.aload_n 0, 1) := by decide +kernel
theorem d_Re_readString_54 : decode b_Re_readString 54 = .ok (.getfield 22, 3) := by decide +kernel
theorem d_Re_readString_57 : decode b_Re_readString 57 = .ok (.iload_n 1, 1) := by decide +kernel
theorem d_Re_readString_58 : decode b_Re_readString 58 = .ok (.invokevirtual 125, 3) := by decide +kernel
theorem d_Re_readString_61 : decode b_Re_readString 61 = .ok (.areturn, 1) := by decide +kernel
theorem d_Re_readString_62 : decode b_Re_readString 62 = .ok (.iload_n 2, 1) := by decide +kernel
theorem d_Re_readString_63 : decode b_Re_readString 63 = .ok (.bipush 92, 2) := by decide +kernel
theorem d_Re_readString_65 : decode b_Re_readString 65 = .ok (.if_icmp .ne 35, 3) := by decide +kernel
theorem d_Re_readString_68 : decode b_Re_readString 68 = .ok (.aload_n 0, 1) := by decide +kernel
theorem d_Re_readString_69 : decode b_Re_readString 69 = .ok (.dup, 1) := by decide +kernel
theorem d_Re_readString_70 : decode b_Re_readString 70 = .ok (.getfield 42, 3) := by decide +kernel
theorem d_Re_readString_73 : decode b_Re_readString 73 = .ok (.iconst 1, 1) := by decide +kernel
theorem d_Re_readString_74 : decode b_Re_readString 74 = .ok (.iadd, 1) := by decide +kernel
theorem d_Re_readString_75 : decode b_Re_readString 75 = .ok (.putfield 42, 3) := by decide +kernel
theorem d_Re_readString_78 : decode b_Re_readString 78 = .ok (.aload_n 0, 1) := by decide +kernel
theorem d_Re_readString_79 : decode b_Re_readString 79 = .ok (.invokevirtual 56, 3) := by decide +kernel
theorem d_Re_readString_82 : decode b_Re_readString 82 = .ok (.istore_n 2, 1) := by decide +kernel
theorem d_Re_readString_83 : decode b_Re_readString 83 = .ok (.iload_n 2, 1) := by decide +kernel
theorem d_Re_readString_84 : decode b_Re_readString 84 = .ok (.bipush 34, 2) := by decide +kernel
theorem d_Re_readString_86 : decode b_Re_readString 86 = .ok (.if_icmp .eq 14, 3) := by decide +kernel
theorem d_Re_readString_89 : decode b_Re_readString 89 = .ok (.iload_n 2, 1) := by decide +kernel
theorem d_Re_readString_90 : decode b_Re_readString 90 = .ok (.bipush 92, 2) := by decide +kernel
theorem d_Re_readString_92 : decode b_Re_readString 92 = .ok (.if_icmp .eq 8, 3) := by decide +kernel
theorem d_Re_readString_95 : decode b_Re_readString 95 = .ok (.aload_n 0, 1) := by decide +kernel
theorem d_Re_readString_96 : decode b_Re_readString 96 = .ok (.invokevirtual 52, 3) := by decide +kernel
theorem d_Re_readString_99 : decode b_Re_readString 99 = .ok (.areturn, 1) := by decide +kernel
theorem d_Re_readString_100 : decode b_Re_readString 100 = .ok (.iload_n 1, 1) := by decide +kernel
theorem d_Re_readString_101 : decode b_Re_readString 101 = .ok (.bipush 24, 2) := by decide +kernel
theorem d_Re_readString_103 : decode b_Re_readString 103 = .ok (.if_icmp .lt 8, 3) := by decide +kernel
theorem d_Re_readString_106 : decode b_Re_readString 106 = .ok (.aload_n 0, 1) := by decide +kernel
theorem d_Re_readString_107 : decode b_Re_readString 107 = .ok (.invokevirtual 52, 3) := by decide +kernel
theorem d_Re_readString_110 : decode b_Re_readString 110 = .ok (.areturn, 1) := by decide +kernel
theorem d_Re_readString_111 : decode b_Re_readString 111 = .ok (.aload_n 0, 1) := by decide +kernel
theorem d_Re_readString_112 : decode b_Re_readString 112 = .ok (.getfield 22, 3) := by decide +kernel
theorem d_Re_readString_115 : decode b_Re_readString 115 = .ok (.iload_n 1, 1) := by decide +kernel
theorem d_Re_readString_116 : decode b_Re_readString 116 = .ok (.iload_n 2, 1) := by decide +kernel
theorem d_Re_readString_117 : decode b_Re_readString 117 = .ok (.castore, 1) := by decide +kernel
theorem d_Re_readString_118 : decode b_Re_readString 118 = .ok (.iinc 1 1, 3) := by decide +kernel
theorem d_Re_readString_121 : decode b_Re_readString 121 = .ok (.aload_n 0, 1) := by decide +kernel
theorem d_Re_readString_122 : decode b_Re_readString 122 = .ok (.dup, 1) := by decide +kernel
theorem d_Re_readString_123 : decode b_Re_readString 123 = .ok (.getfield 42, 3) := by decide +kernel
theorem d_Re_readString_126 : decode b_Re_readString 126 = .ok (.iconst 1, 1) := by decide +kernel
theorem d_Re_readString_127 : decode b_Re_readString 127 = .ok (.iadd, 1) := by decide +kernel
theorem d_Re_readString_128 : decode b_Re_readString 128 = .ok (.putfield 42, 3) := by decide +kernel
theorem d_Re_readString_131 : decode b_Re_readString 131 = .ok (.goto (-119), 3) := by decide +kernel
theorem d_Re_readString_134 : decode b_Re_readString 134 = .ok (.aload_n 0, 1) := by decide +kernel
theorem d_Re_readString_135 : decode b_Re_readString 135 = .ok (.invokevirtual 52, 3) := by decide +kernel
theorem d_Re_readString_138 : decode b_Re_readString 138 = .ok (.areturn, 1) := by decide +kernel
set_option maxHeartbeats 4000000 in
set_option maxRecDepth 100000 in
theorem c_Re_readString (l : Launch) (E : gh_E) (sz : Nat) (f : gh_F) (ρ Z tx : Nat → Nat) (n pl : Nat) (bd : Int32) (hA : re_A E ρ Z tx n f pl bd) (hp : pl < n) : gh_M l y_Re_readString b_Re_readString 3 (some (.object "QueryMachine$Value")) E sz [.ref (Z 8)] f { frames := 4, cells := 2, slots := 31, locals := 120 } (fun r g => re_T E ρ Z tx n g bd (rd_s tx n n (pl + 1) []) r ∧ gh_fr f g (re_M ρ 8)) := by
  refine gh_open (by decide) (Nat.le_of_ble_eq_true rfl) ?_
  intro p e s m args below meth c A ls hAe C V hr hlocks hname hl
  have hx := C.1
  have hb := C.2.1
  have hl : lv_has ls 3 [(0, .ref (Z 8))] := hl
  have h120 := hA.n
  have hfr : gh_fr f f (re_M ρ 8) := gh_fr.rf
  have hch := fun q => hA.ch q
  refine lv_iconst (v := 0) hx hb d_Re_readString_0 (by decide) ?_
  refine lv_istore_n hx hb d_Re_readString_1 rfl hl (by decide) rfl (fun ls hl => ?_)
  have hl : lv_has ls 3 [(1, .int 0), (0, .ref (Z 8))] := hl
  refine lv_aload_n hx hb d_Re_readString_2 rfl (lv_at hl 1 rfl) ?_
  refine lv_dup hx hb d_Re_readString_3 rfl ?_
  refine gh_get C V hA.1 gc_Re gi_Re 5 (by decide) f_Re_42 rfl rfl d_Re_readString_4 ?_
  refine lv_iconst (v := 1) hx hb d_Re_readString_7 (by decide) ?_
  refine gn_iadd (a := pl) (b := 1) hx hb d_Re_readString_8 ?_
  refine gh_put C V hA.1 gc_Re gi_Re ty_Re nm_Re 5 (by decide) f_Re_42 rfl rfl rfl (Nat.le_of_ble_eq_true rfl) d_Re_readString_9 (fun H locs V1 => ?_)
  obtain ⟨fa1, hffa1⟩ : ∃ z9 : gh_F, z9 = gh_u f (Z 8) (.inr (3, [.ref (Z 200), .ref (Z 208), .ref (Z 9), .ref (Z 7), .int (nI n), .int (nI (pl + 1)), .int bd])) := ⟨_, rfl⟩
  have V : gh_V E A fa1 s H locs := by rw [hffa1]; exact V1
  have hA2 : re_A E ρ Z tx n fa1 (pl + 1) bd ∧ gh_fr f fa1 (re_M ρ 8) := by rw [hffa1]; exact hA.own
  have hA := hA2.1
  have hfr := re_tr hfr hA2.2 (by omega)
  have hl : lv_has ls 3 [(1, .int 0), (0, .ref (Z 8))] := lv_sub hl [0, 1] rfl
  have hl : lv_has ls 3 [(1, .int (nI ([] : List Int32).length)), (0, .ref (Z 8))] := hl
  have loop : ∀ (m9 p9 : Nat) (L : List Int32) (h : Nat → Int32) (f1 : gh_F) (H : Heap) (locs : List Loc) (ls : Array Slot), n ≤ p9 + m9 → p9 ≤ n → lt_ok L → rd_s tx n m9 p9 L = rd_s tx n n (pl + 1) [] → f1 (Z 9) = some (.inl (E.2.2.1 2, 24, .inl h)) → (∀ j, j < L.length → h j = L.getD j 0) → re_A E ρ Z tx n f1 p9 bd → gh_fr f f1 (re_M ρ 8) → gh_V E A f1 s H locs → lv_has ls 3 [(1, .int (nI L.length)), (0, .ref (Z 8))] → W p l e { frames := 4, cells := 2, slots := 31, locals := 120 } s m args below meth c H locs 0 0 (MQ below (gh_Q E f (fun r g => re_T E ρ Z tx n g bd (rd_s tx n n (pl + 1) []) r ∧ gh_fr f g (re_M ρ 8))) args s 2 31 A) (F0 m 12 ls []) := by
    intro m9
    induction m9 with
    | zero =>
      intro p9 L h f1 H locs ls hm hp9 hLk hrd h9 hh hA hfr V hl
      have hL24 := hLk.1
      refine lv_aload_n hx hb d_Re_readString_12 rfl (lv_at hl 1 rfl) ?_
      refine gh_get C V hA.1 gc_Re gi_Re 5 (by decide) f_Re_42 rfl rfl d_Re_readString_13 ?_
      refine lv_aload_n hx hb d_Re_readString_16 rfl (lv_at hl 1 rfl) ?_
      refine gh_get C V hA.1 gc_Re gi_Re 4 (by decide) f_Re_39 rfl rfl d_Re_readString_17 ?_
      refine lv_icmp_ge (tgt := 134) hx hb d_Re_readString_20 (by decide) (fun c1 => ?_) (fun c1 => absurd (nI_le (by omega) (by omega)) c1)
      refine lv_aload_n hx hb d_Re_readString_134 rfl (lv_at hl 1 rfl) ?_
      refine gh_callV C V hl.1 m_Re_refused l_Re_52 (c_Re_refused l E _ _ ρ Z tx n p9 bd hA) rfl hA.1 gc_Re ⟨by first | decide | omega | (dsimp only; omega), by first | decide | omega | (dsimp only; omega)⟩ ⟨by first | decide | omega | (dsimp only; omega), by first | decide | omega | (dsimp only; omega)⟩ (Nat.le_of_ble_eq_true rfl) rfl d_Re_readString_135 (fun r fz2 H locs hp9 V1 => ?_)
      obtain ⟨rfl, hA2, hfr2⟩ := hp9
      have V := V1
      refine W.eq (g2 := F0 m 138 ls [.null]) rfl ?_
      have hA := hA2
      have hfr := re_tr hfr hfr2 (by omega)
      refine gh_reta hAe C V hr (by first | exact Or.inl ⟨_, rfl⟩ | exact Or.inr ⟨_, rfl⟩) (by first | exact Or.inl rfl | exact Or.inr ⟨_, rfl⟩) hlocks d_Re_readString_138 (by first | decide | omega | (dsimp only; omega)) (by first | decide | omega | (dsimp only; omega)) ?_
      rw [← hrd]
      rw [show rd_s tx n 0 p9 L = (p9, none) from rfl]
      exact ⟨⟨rfl, hA⟩, hfr⟩
    | succ m9 ih =>
      intro p9 L h f1 H locs ls hm hp9 hLk hrd h9 hh hA hfr V hl
      have hL24 := hLk.1
      by_cases hnp : n ≤ p9
      · refine lv_aload_n hx hb d_Re_readString_12 rfl (lv_at hl 1 rfl) ?_
        refine gh_get C V hA.1 gc_Re gi_Re 5 (by decide) f_Re_42 rfl rfl d_Re_readString_13 ?_
        refine lv_aload_n hx hb d_Re_readString_16 rfl (lv_at hl 1 rfl) ?_
        refine gh_get C V hA.1 gc_Re gi_Re 4 (by decide) f_Re_39 rfl rfl d_Re_readString_17 ?_
        refine lv_icmp_ge (tgt := 134) hx hb d_Re_readString_20 (by decide) (fun c2 => ?_) (fun c2 => absurd (nI_le (by omega) (by omega)) c2)
        refine lv_aload_n hx hb d_Re_readString_134 rfl (lv_at hl 1 rfl) ?_
        refine gh_callV C V hl.1 m_Re_refused l_Re_52 (c_Re_refused l E _ _ ρ Z tx n p9 bd hA) rfl hA.1 gc_Re ⟨by first | decide | omega | (dsimp only; omega), by first | decide | omega | (dsimp only; omega)⟩ ⟨by first | decide | omega | (dsimp only; omega), by first | decide | omega | (dsimp only; omega)⟩ (Nat.le_of_ble_eq_true rfl) rfl d_Re_readString_135 (fun r fz3 H locs hp9 V1 => ?_)
        obtain ⟨rfl, hA2, hfr2⟩ := hp9
        have V := V1
        refine W.eq (g2 := F0 m 138 ls [.null]) rfl ?_
        have hA := hA2
        have hfr := re_tr hfr hfr2 (by omega)
        refine gh_reta hAe C V hr (by first | exact Or.inl ⟨_, rfl⟩ | exact Or.inr ⟨_, rfl⟩) (by first | exact Or.inl rfl | exact Or.inr ⟨_, rfl⟩) hlocks d_Re_readString_138 (by first | decide | omega | (dsimp only; omega)) (by first | decide | omega | (dsimp only; omega)) ?_
        rw [← hrd]
        rw [rd_s_o, if_pos hnp]
        exact ⟨⟨rfl, hA⟩, hfr⟩
      · obtain ⟨ht4, h7_4, htx4⟩ := hA.2.1.2.2.2.2.2.1
        have hpn : p9 < n := by omega
        have hc := (hch p9).2 hpn
        have hc1 := (hch p9).1
        refine lv_aload_n hx hb d_Re_readString_12 rfl (lv_at hl 1 rfl) ?_
        refine gh_get C V hA.1 gc_Re gi_Re 5 (by decide) f_Re_42 rfl rfl d_Re_readString_13 ?_
        refine lv_aload_n hx hb d_Re_readString_16 rfl (lv_at hl 1 rfl) ?_
        refine gh_get C V hA.1 gc_Re gi_Re 4 (by decide) f_Re_39 rfl rfl d_Re_readString_17 ?_
        refine lv_icmp_ge (tgt := 134) hx hb d_Re_readString_20 (by decide) (fun c3 => absurd c3 (nI_ge hpn (by omega))) (fun c3 => ?_)
        refine lv_aload_n hx hb d_Re_readString_23 rfl (lv_at hl 1 rfl) ?_
        refine gh_get C V hA.1 gc_Re gi_Re 3 (by decide) f_Re_30 rfl rfl d_Re_readString_24 ?_
        refine lv_aload_n hx hb d_Re_readString_27 rfl (lv_at hl 1 rfl) ?_
        refine gh_get C V hA.1 gc_Re gi_Re 5 (by decide) f_Re_42 rfl rfl d_Re_readString_28 ?_
        refine gn_cald (i := p9) C V h7_4 (by omega) (by omega) d_Re_readString_31 ?_
        rw [htx4 p9 hpn]
        refine lv_istore_n hx hb d_Re_readString_32 rfl hl (by decide) rfl (fun ls hl => ?_)
        have hl : lv_has ls 3 [(2, .int (nI (tx p9))), (1, .int (nI L.length)), (0, .ref (Z 8))] := hl
        by_cases hq : tx p9 = 34
        · refine lv_iload_n hx hb d_Re_readString_33 rfl (lv_at hl 0 rfl) ?_
          refine lv_bipush (v := 34) hx hb d_Re_readString_34 (by decide) ?_
          refine lv_icmp_ne (tgt := 62) hx hb d_Re_readString_36 (by decide) (fun c4 => absurd (by rw [hq]; rfl) c4) (fun c4 => ?_)
          refine lv_aload_n hx hb d_Re_readString_39 rfl (lv_at hl 2 rfl) ?_
          refine lv_dup hx hb d_Re_readString_40 rfl ?_
          refine gh_get C V hA.1 gc_Re gi_Re 5 (by decide) f_Re_42 rfl rfl d_Re_readString_41 ?_
          refine lv_iconst (v := 1) hx hb d_Re_readString_44 (by decide) ?_
          refine gn_iadd (a := p9) (b := 1) hx hb d_Re_readString_45 ?_
          refine gh_put C V hA.1 gc_Re gi_Re ty_Re nm_Re 5 (by decide) f_Re_42 rfl rfl rfl (Nat.le_of_ble_eq_true rfl) d_Re_readString_46 (fun H locs V1 => ?_)
          obtain ⟨fa5, hffa5⟩ : ∃ z9 : gh_F, z9 = gh_u f1 (Z 8) (.inr (3, [.ref (Z 200), .ref (Z 208), .ref (Z 9), .ref (Z 7), .int (nI n), .int (nI (p9 + 1)), .int bd])) := ⟨_, rfl⟩
          have V : gh_V E A fa5 s H locs := by rw [hffa5]; exact V1
          have hA2 : re_A E ρ Z tx n fa5 (p9 + 1) bd ∧ gh_fr f1 fa5 (re_M ρ 8) := by rw [hffa5]; exact hA.own
          have hA := hA2.1
          have hfr := re_tr hfr hA2.2 (by omega)
          have h9b : fa5 (Z 9) = some (.inl (E.2.2.1 2, 24, .inl h)) := by rw [hffa5, gh_un (rz_ne hA.2.1.1 (by unfold rU; omega) (by unfold rU; omega) (by omega))]; exact h9
          refine lv_aload_n hx hb d_Re_readString_49 rfl (lv_at hl 2 rfl) ?_
          refine gh_get C V hA.1 gc_Re gi_Re 0 (by decide) f_Re_7 rfl rfl d_Re_readString_50 ?_
          refine lv_aload_n hx hb d_Re_readString_53 rfl (lv_at hl 2 rfl) ?_
          refine gh_get C V hA.1 gc_Re gi_Re 2 (by decide) f_Re_22 rfl rfl d_Re_readString_54 ?_
          refine lv_iload_n hx hb d_Re_readString_57 rfl (lv_at hl 1 rfl) ?_
          refine gh_callV C V hl.1 m_Vs_string l_Re_125 (c_Vs_string l E _ _ (rP ρ) _ _ _ _ _ _ _ (Z 9) L h hA.2.1.2.2.2.1 hA.2.1.2.2.2.2.1 h9b hLk hh) rfl hA.2.1.2.2.2.1.2.1 gc_Vs ⟨by first | decide | omega | (dsimp only; omega), by first | decide | omega | (dsimp only; omega)⟩ ⟨by first | decide | omega | (dsimp only; omega), by first | decide | omega | (dsimp only; omega)⟩ (Nat.le_of_ble_eq_true rfl) rfl d_Re_readString_58 (fun r gs H locs hp9 V1 => ?_)
          obtain ⟨⟨v9, rfl, hv9⟩, hfr2⟩ := hp9
          have V := V1
          refine W.eq (g2 := F0 m 61 ls [.ref v9]) rfl ?_
          refine gh_reta hAe C V hr (by first | exact Or.inl ⟨_, rfl⟩ | exact Or.inr ⟨_, rfl⟩) (by first | exact Or.inl rfl | exact Or.inr ⟨_, rfl⟩) hlocks d_Re_readString_61 (by first | decide | omega | (dsimp only; omega)) (by first | decide | omega | (dsimp only; omega)) ?_
          rw [← hrd]
          rw [rd_s_o, if_neg hnp, if_pos hq]
          exact ⟨⟨⟨_, rfl, hv9⟩, hA.new hfr2⟩, hfr.tr hfr2 (fun _ _ _ z => absurd z (by simp))⟩
        · refine lv_iload_n hx hb d_Re_readString_33 rfl (lv_at hl 0 rfl) ?_
          refine lv_bipush (v := 34) hx hb d_Re_readString_34 (by decide) ?_
          refine lv_icmp_ne (tgt := 62) hx hb d_Re_readString_36 (by decide) (fun c5 => ?_) (fun c5 => absurd c5 (fun z => hq ((nI_eq (b := 34) (by omega) (by decide)).mp z)))
          by_cases hbs : tx p9 = 92
          · refine lv_iload_n hx hb d_Re_readString_62 rfl (lv_at hl 0 rfl) ?_
            refine lv_bipush (v := 92) hx hb d_Re_readString_63 (by decide) ?_
            refine lv_icmp_ne (tgt := 100) hx hb d_Re_readString_65 (by decide) (fun c6 => absurd (by rw [hbs]; rfl) c6) (fun c6 => ?_)
            refine lv_aload_n hx hb d_Re_readString_68 rfl (lv_at hl 2 rfl) ?_
            refine lv_dup hx hb d_Re_readString_69 rfl ?_
            refine gh_get C V hA.1 gc_Re gi_Re 5 (by decide) f_Re_42 rfl rfl d_Re_readString_70 ?_
            refine lv_iconst (v := 1) hx hb d_Re_readString_73 (by decide) ?_
            refine gn_iadd (a := p9) (b := 1) hx hb d_Re_readString_74 ?_
            refine gh_put C V hA.1 gc_Re gi_Re ty_Re nm_Re 5 (by decide) f_Re_42 rfl rfl rfl (Nat.le_of_ble_eq_true rfl) d_Re_readString_75 (fun H locs V1 => ?_)
            obtain ⟨fa6, hffa6⟩ : ∃ z9 : gh_F, z9 = gh_u f1 (Z 8) (.inr (3, [.ref (Z 200), .ref (Z 208), .ref (Z 9), .ref (Z 7), .int (nI n), .int (nI (p9 + 1)), .int bd])) := ⟨_, rfl⟩
            have V : gh_V E A fa6 s H locs := by rw [hffa6]; exact V1
            have hA2 : re_A E ρ Z tx n fa6 (p9 + 1) bd ∧ gh_fr f1 fa6 (re_M ρ 8) := by rw [hffa6]; exact hA.own
            have hA := hA2.1
            have hfr := re_tr hfr hA2.2 (by omega)
            refine lv_aload_n hx hb d_Re_readString_78 rfl (lv_at hl 2 rfl) ?_
            refine gh_callV C V hl.1 m_Re_sign l_Re_56 (c_Re_sign l E _ _ ρ Z tx n (p9 + 1) bd hA (by omega)) rfl hA.1 gc_Re ⟨by first | decide | omega | (dsimp only; omega), by first | decide | omega | (dsimp only; omega)⟩ ⟨by first | decide | omega | (dsimp only; omega), by first | decide | omega | (dsimp only; omega)⟩ (Nat.le_of_ble_eq_true rfl) rfl d_Re_readString_79 (fun r g7_ H locs hp9 V1 => ?_)
            obtain ⟨rfl, he9⟩ := hp9
            rw [he9] at V1
            have V := V1
            refine W.eq (g2 := F0 m 82 ls [.int (nI (sg tx n (p9 + 1)))]) rfl ?_
            refine lv_istore_n hx hb d_Re_readString_82 rfl hl (by decide) rfl (fun ls hl => ?_)
            have hl : lv_has ls 3 [(2, .int (nI (sg tx n (p9 + 1)))), (1, .int (nI L.length)), (0, .ref (Z 8))] := hl
            have hd1 := (hch (p9 + 1)).1
            by_cases hes : (sg tx n (p9 + 1) ≠ 34 ∧ sg tx n (p9 + 1) ≠ 92) ∨ 24 ≤ L.length
            · by_cases he2 : sg tx n (p9 + 1) ≠ 34 ∧ sg tx n (p9 + 1) ≠ 92
              · refine lv_iload_n hx hb d_Re_readString_83 rfl (lv_at hl 0 rfl) ?_
                refine lv_bipush (v := 34) hx hb d_Re_readString_84 (by decide) ?_
                refine lv_icmp_eq (tgt := 100) hx hb d_Re_readString_86 (by decide) (fun c7 => absurd c7 (fun z => he2.1 ((nI_eq (b := 34) (by omega) (by decide)).mp z))) (fun c7 => ?_)
                refine lv_iload_n hx hb d_Re_readString_89 rfl (lv_at hl 0 rfl) ?_
                refine lv_bipush (v := 92) hx hb d_Re_readString_90 (by decide) ?_
                refine lv_icmp_eq (tgt := 100) hx hb d_Re_readString_92 (by decide) (fun c8 => absurd c8 (fun z => he2.2 ((nI_eq (b := 92) (by omega) (by decide)).mp z))) (fun c8 => ?_)
                refine lv_aload_n hx hb d_Re_readString_95 rfl (lv_at hl 2 rfl) ?_
                refine gh_callV C V hl.1 m_Re_refused l_Re_52 (c_Re_refused l E _ _ ρ Z tx n (p9 + 1) bd hA) rfl hA.1 gc_Re ⟨by first | decide | omega | (dsimp only; omega), by first | decide | omega | (dsimp only; omega)⟩ ⟨by first | decide | omega | (dsimp only; omega), by first | decide | omega | (dsimp only; omega)⟩ (Nat.le_of_ble_eq_true rfl) rfl d_Re_readString_96 (fun r fz8 H locs hp9 V1 => ?_)
                obtain ⟨rfl, hA2, hfr2⟩ := hp9
                have V := V1
                refine W.eq (g2 := F0 m 99 ls [.null]) rfl ?_
                have hA := hA2
                have hfr := re_tr hfr hfr2 (by omega)
                refine gh_reta hAe C V hr (by first | exact Or.inl ⟨_, rfl⟩ | exact Or.inr ⟨_, rfl⟩) (by first | exact Or.inl rfl | exact Or.inr ⟨_, rfl⟩) hlocks d_Re_readString_99 (by first | decide | omega | (dsimp only; omega)) (by first | decide | omega | (dsimp only; omega)) ?_
                rw [← hrd]
                rw [rd_s_o, if_neg hnp, if_neg hq, if_pos hbs, if_pos hes]
                exact ⟨⟨rfl, hA⟩, hfr⟩
              · have h24 : 24 ≤ L.length := by omega
                by_cases he3 : sg tx n (p9 + 1) = 34
                · refine lv_iload_n hx hb d_Re_readString_83 rfl (lv_at hl 0 rfl) ?_
                  refine lv_bipush (v := 34) hx hb d_Re_readString_84 (by decide) ?_
                  refine lv_icmp_eq (tgt := 100) hx hb d_Re_readString_86 (by decide) (fun c9 => ?_) (fun c9 => absurd (by rw [he3]; rfl) c9)
                  refine lv_iload_n hx hb d_Re_readString_100 rfl (lv_at hl 1 rfl) ?_
                  refine lv_bipush (v := 24) hx hb d_Re_readString_101 (by decide) ?_
                  refine lv_icmp_lt (tgt := 111) hx hb d_Re_readString_103 (by decide) (fun c10 => absurd c10 (nI_nlt (b := 24) (by omega) (by omega))) (fun c10 => ?_)
                  refine lv_aload_n hx hb d_Re_readString_106 rfl (lv_at hl 2 rfl) ?_
                  refine gh_callV C V hl.1 m_Re_refused l_Re_52 (c_Re_refused l E _ _ ρ Z tx n (p9 + 1) bd hA) rfl hA.1 gc_Re ⟨by first | decide | omega | (dsimp only; omega), by first | decide | omega | (dsimp only; omega)⟩ ⟨by first | decide | omega | (dsimp only; omega), by first | decide | omega | (dsimp only; omega)⟩ (Nat.le_of_ble_eq_true rfl) rfl d_Re_readString_107 (fun r fz9 H locs hp9 V1 => ?_)
                  obtain ⟨rfl, hA2, hfr2⟩ := hp9
                  have V := V1
                  refine W.eq (g2 := F0 m 110 ls [.null]) rfl ?_
                  have hA := hA2
                  have hfr := re_tr hfr hfr2 (by omega)
                  refine gh_reta hAe C V hr (by first | exact Or.inl ⟨_, rfl⟩ | exact Or.inr ⟨_, rfl⟩) (by first | exact Or.inl rfl | exact Or.inr ⟨_, rfl⟩) hlocks d_Re_readString_110 (by first | decide | omega | (dsimp only; omega)) (by first | decide | omega | (dsimp only; omega)) ?_
                  rw [← hrd]
                  rw [rd_s_o, if_neg hnp, if_neg hq, if_pos hbs, if_pos hes]
                  exact ⟨⟨rfl, hA⟩, hfr⟩
                · refine lv_iload_n hx hb d_Re_readString_83 rfl (lv_at hl 0 rfl) ?_
                  refine lv_bipush (v := 34) hx hb d_Re_readString_84 (by decide) ?_
                  refine lv_icmp_eq (tgt := 100) hx hb d_Re_readString_86 (by decide) (fun c11 => absurd c11 (fun z => he3 ((nI_eq (b := 34) (by omega) (by decide)).mp z))) (fun c11 => ?_)
                  refine lv_iload_n hx hb d_Re_readString_89 rfl (lv_at hl 0 rfl) ?_
                  refine lv_bipush (v := 92) hx hb d_Re_readString_90 (by decide) ?_
                  refine lv_icmp_eq (tgt := 100) hx hb d_Re_readString_92 (by decide) (fun c12 => ?_) (fun c12 => absurd (by rw [show sg tx n (p9 + 1) = 92 by omega]; rfl) c12)
                  refine lv_iload_n hx hb d_Re_readString_100 rfl (lv_at hl 1 rfl) ?_
                  refine lv_bipush (v := 24) hx hb d_Re_readString_101 (by decide) ?_
                  refine lv_icmp_lt (tgt := 111) hx hb d_Re_readString_103 (by decide) (fun c13 => absurd c13 (nI_nlt (b := 24) (by omega) (by omega))) (fun c13 => ?_)
                  refine lv_aload_n hx hb d_Re_readString_106 rfl (lv_at hl 2 rfl) ?_
                  refine gh_callV C V hl.1 m_Re_refused l_Re_52 (c_Re_refused l E _ _ ρ Z tx n (p9 + 1) bd hA) rfl hA.1 gc_Re ⟨by first | decide | omega | (dsimp only; omega), by first | decide | omega | (dsimp only; omega)⟩ ⟨by first | decide | omega | (dsimp only; omega), by first | decide | omega | (dsimp only; omega)⟩ (Nat.le_of_ble_eq_true rfl) rfl d_Re_readString_107 (fun r fz10 H locs hp9 V1 => ?_)
                  obtain ⟨rfl, hA2, hfr2⟩ := hp9
                  have V := V1
                  refine W.eq (g2 := F0 m 110 ls [.null]) rfl ?_
                  have hA := hA2
                  have hfr := re_tr hfr hfr2 (by omega)
                  refine gh_reta hAe C V hr (by first | exact Or.inl ⟨_, rfl⟩ | exact Or.inr ⟨_, rfl⟩) (by first | exact Or.inl rfl | exact Or.inr ⟨_, rfl⟩) hlocks d_Re_readString_110 (by first | decide | omega | (dsimp only; omega)) (by first | decide | omega | (dsimp only; omega)) ?_
                  rw [← hrd]
                  rw [rd_s_o, if_neg hnp, if_neg hq, if_pos hbs, if_pos hes]
                  exact ⟨⟨rfl, hA⟩, hfr⟩
            · have hln : p9 + 1 < n := sg_lt (by omega : sg tx n (p9 + 1) ≠ 0)
              have hd2 := (hch (p9 + 1)).2 hln
              by_cases he3 : sg tx n (p9 + 1) = 34
              · refine lv_iload_n hx hb d_Re_readString_83 rfl (lv_at hl 0 rfl) ?_
                refine lv_bipush (v := 34) hx hb d_Re_readString_84 (by decide) ?_
                refine lv_icmp_eq (tgt := 100) hx hb d_Re_readString_86 (by decide) (fun c14 => ?_) (fun c14 => absurd (by rw [he3]; rfl) c14)
                refine lv_iload_n hx hb d_Re_readString_100 rfl (lv_at hl 1 rfl) ?_
                refine lv_bipush (v := 24) hx hb d_Re_readString_101 (by decide) ?_
                refine lv_icmp_lt (tgt := 111) hx hb d_Re_readString_103 (by decide) (fun c15 => ?_) (fun c15 => absurd (nI_lt (b := 24) (by omega) (by decide)) c15)
                refine lv_aload_n hx hb d_Re_readString_111 rfl (lv_at hl 2 rfl) ?_
                refine gh_get C V hA.1 gc_Re gi_Re 2 (by decide) f_Re_22 rfl rfl d_Re_readString_112 ?_
                refine lv_iload_n hx hb d_Re_readString_115 rfl (lv_at hl 1 rfl) ?_
                refine lv_iload_n hx hb d_Re_readString_116 rfl (lv_at hl 0 rfl) ?_
                have h9c : fa6 (Z 9) = some (.inl (E.2.2.1 2, 24, .inl h)) := by rw [hffa6, gh_un (rz_ne hA.2.1.1 (by unfold rU; omega) (by unfold rU; omega) (by omega))]; exact h9
                refine gn_cast (i := L.length) C V h9c (by omega) (by decide) d_Re_readString_117 (fun H locs V1 => ?_)
                rw [(show chr (nI (sg tx n (p9 + 1))) from ⟨_, by omega, rfl⟩).vp] at V1
                obtain ⟨fl11, hffl11⟩ : ∃ z9 : gh_F, z9 = gh_u fa6 (Z 9) (.inl (E.2.2.1 2, 24, .inl (upd h L.length (nI (sg tx n (p9 + 1)))))) := ⟨_, rfl⟩
                have V : gh_V E A fl11 s H locs := by rw [hffl11]; exact V1
                have hA3 : re_A E ρ Z tx n fl11 (p9 + 1) bd ∧ gh_fr fa6 fl11 (re_M ρ 8) := by rw [hffl11]; exact hA.let
                have hA := hA3.1
                have hfr := re_tr hfr hA3.2 (by omega)
                have h9d : fl11 (Z 9) = some (.inl (E.2.2.1 2, 24, .inl (upd h L.length (nI (sg tx n (p9 + 1)))))) := by rw [hffl11, gh_us]
                refine lv_iinc (k := 1) (v := (nI L.length) + 1) hx hb d_Re_readString_118 hl rfl (by rfl) (by decide) rfl (fun ls hl => ?_)
                have hl : lv_has ls 3 [(1, .int (nI (L.length + 1))), (2, .int (nI (sg tx n (p9 + 1)))), (0, .ref (Z 8))] := by rw [nI_succ]; exact hl
                refine lv_aload_n hx hb d_Re_readString_121 rfl (lv_at hl 2 rfl) ?_
                refine lv_dup hx hb d_Re_readString_122 rfl ?_
                refine gh_get C V hA.1 gc_Re gi_Re 5 (by decide) f_Re_42 rfl rfl d_Re_readString_123 ?_
                refine lv_iconst (v := 1) hx hb d_Re_readString_126 (by decide) ?_
                refine gn_iadd (a := p9 + 1) (b := 1) hx hb d_Re_readString_127 ?_
                refine gh_put C V hA.1 gc_Re gi_Re ty_Re nm_Re 5 (by decide) f_Re_42 rfl rfl rfl (Nat.le_of_ble_eq_true rfl) d_Re_readString_128 (fun H locs V1 => ?_)
                obtain ⟨fa12, hffa12⟩ : ∃ z9 : gh_F, z9 = gh_u fl11 (Z 8) (.inr (3, [.ref (Z 200), .ref (Z 208), .ref (Z 9), .ref (Z 7), .int (nI n), .int (nI (p9 + 1 + 1)), .int bd])) := ⟨_, rfl⟩
                have V : gh_V E A fa12 s H locs := by rw [hffa12]; exact V1
                have hA2 : re_A E ρ Z tx n fa12 (p9 + 1 + 1) bd ∧ gh_fr fl11 fa12 (re_M ρ 8) := by rw [hffa12]; exact hA.own
                have hA := hA2.1
                have hfr := re_tr hfr hA2.2 (by omega)
                have h9e : fa12 (Z 9) = some (.inl (E.2.2.1 2, 24, .inl (upd h L.length (nI (sg tx n (p9 + 1)))))) := by rw [hffa12, gh_un (rz_ne hA.2.1.1 (by unfold rU; omega) (by unfold rU; omega) (by omega))]; exact h9d
                refine lv_goto (tgt := 12) hx hb d_Re_readString_131 (by decide) ?_
                have hl : lv_has ls 3 [(1, .int (nI (L.length + 1))), (0, .ref (Z 8))] := lv_sub hl [0, 2] rfl
                have hl : lv_has ls 3 [(1, .int (nI (L ++ [nI (sg tx n (p9 + 1))]).length)), (0, .ref (Z 8))] := by rw [List.length_append]; exact hl
                have hrd3 : rd_s tx n (m9 + 1) p9 L = rd_s tx n m9 (p9 + 1 + 1) (L ++ [nI (sg tx n (p9 + 1))]) := by rw [rd_s_o, if_neg hnp, if_neg hq, if_pos hbs, if_neg hes]
                exact ih (p9 + 1 + 1) (L ++ [nI (sg tx n (p9 + 1))]) _ _ _ _ ls (by omega) (by omega) (hLk.add (by omega) (by omega) (by omega)) (by rw [← hrd, hrd3]) h9e (re_let hh) hA hfr V hl
              · refine lv_iload_n hx hb d_Re_readString_83 rfl (lv_at hl 0 rfl) ?_
                refine lv_bipush (v := 34) hx hb d_Re_readString_84 (by decide) ?_
                refine lv_icmp_eq (tgt := 100) hx hb d_Re_readString_86 (by decide) (fun c16 => absurd c16 (fun z => he3 ((nI_eq (b := 34) (by omega) (by decide)).mp z))) (fun c16 => ?_)
                refine lv_iload_n hx hb d_Re_readString_89 rfl (lv_at hl 0 rfl) ?_
                refine lv_bipush (v := 92) hx hb d_Re_readString_90 (by decide) ?_
                refine lv_icmp_eq (tgt := 100) hx hb d_Re_readString_92 (by decide) (fun c17 => ?_) (fun c17 => absurd (by rw [show sg tx n (p9 + 1) = 92 by omega]; rfl) c17)
                refine lv_iload_n hx hb d_Re_readString_100 rfl (lv_at hl 1 rfl) ?_
                refine lv_bipush (v := 24) hx hb d_Re_readString_101 (by decide) ?_
                refine lv_icmp_lt (tgt := 111) hx hb d_Re_readString_103 (by decide) (fun c18 => ?_) (fun c18 => absurd (nI_lt (b := 24) (by omega) (by decide)) c18)
                refine lv_aload_n hx hb d_Re_readString_111 rfl (lv_at hl 2 rfl) ?_
                refine gh_get C V hA.1 gc_Re gi_Re 2 (by decide) f_Re_22 rfl rfl d_Re_readString_112 ?_
                refine lv_iload_n hx hb d_Re_readString_115 rfl (lv_at hl 1 rfl) ?_
                refine lv_iload_n hx hb d_Re_readString_116 rfl (lv_at hl 0 rfl) ?_
                have h9c : fa6 (Z 9) = some (.inl (E.2.2.1 2, 24, .inl h)) := by rw [hffa6, gh_un (rz_ne hA.2.1.1 (by unfold rU; omega) (by unfold rU; omega) (by omega))]; exact h9
                refine gn_cast (i := L.length) C V h9c (by omega) (by decide) d_Re_readString_117 (fun H locs V1 => ?_)
                rw [(show chr (nI (sg tx n (p9 + 1))) from ⟨_, by omega, rfl⟩).vp] at V1
                obtain ⟨fl13, hffl13⟩ : ∃ z9 : gh_F, z9 = gh_u fa6 (Z 9) (.inl (E.2.2.1 2, 24, .inl (upd h L.length (nI (sg tx n (p9 + 1)))))) := ⟨_, rfl⟩
                have V : gh_V E A fl13 s H locs := by rw [hffl13]; exact V1
                have hA3 : re_A E ρ Z tx n fl13 (p9 + 1) bd ∧ gh_fr fa6 fl13 (re_M ρ 8) := by rw [hffl13]; exact hA.let
                have hA := hA3.1
                have hfr := re_tr hfr hA3.2 (by omega)
                have h9d : fl13 (Z 9) = some (.inl (E.2.2.1 2, 24, .inl (upd h L.length (nI (sg tx n (p9 + 1)))))) := by rw [hffl13, gh_us]
                refine lv_iinc (k := 1) (v := (nI L.length) + 1) hx hb d_Re_readString_118 hl rfl (by rfl) (by decide) rfl (fun ls hl => ?_)
                have hl : lv_has ls 3 [(1, .int (nI (L.length + 1))), (2, .int (nI (sg tx n (p9 + 1)))), (0, .ref (Z 8))] := by rw [nI_succ]; exact hl
                refine lv_aload_n hx hb d_Re_readString_121 rfl (lv_at hl 2 rfl) ?_
                refine lv_dup hx hb d_Re_readString_122 rfl ?_
                refine gh_get C V hA.1 gc_Re gi_Re 5 (by decide) f_Re_42 rfl rfl d_Re_readString_123 ?_
                refine lv_iconst (v := 1) hx hb d_Re_readString_126 (by decide) ?_
                refine gn_iadd (a := p9 + 1) (b := 1) hx hb d_Re_readString_127 ?_
                refine gh_put C V hA.1 gc_Re gi_Re ty_Re nm_Re 5 (by decide) f_Re_42 rfl rfl rfl (Nat.le_of_ble_eq_true rfl) d_Re_readString_128 (fun H locs V1 => ?_)
                obtain ⟨fa14, hffa14⟩ : ∃ z9 : gh_F, z9 = gh_u fl13 (Z 8) (.inr (3, [.ref (Z 200), .ref (Z 208), .ref (Z 9), .ref (Z 7), .int (nI n), .int (nI (p9 + 1 + 1)), .int bd])) := ⟨_, rfl⟩
                have V : gh_V E A fa14 s H locs := by rw [hffa14]; exact V1
                have hA2 : re_A E ρ Z tx n fa14 (p9 + 1 + 1) bd ∧ gh_fr fl13 fa14 (re_M ρ 8) := by rw [hffa14]; exact hA.own
                have hA := hA2.1
                have hfr := re_tr hfr hA2.2 (by omega)
                have h9e : fa14 (Z 9) = some (.inl (E.2.2.1 2, 24, .inl (upd h L.length (nI (sg tx n (p9 + 1)))))) := by rw [hffa14, gh_un (rz_ne hA.2.1.1 (by unfold rU; omega) (by unfold rU; omega) (by omega))]; exact h9d
                refine lv_goto (tgt := 12) hx hb d_Re_readString_131 (by decide) ?_
                have hl : lv_has ls 3 [(1, .int (nI (L.length + 1))), (0, .ref (Z 8))] := lv_sub hl [0, 2] rfl
                have hl : lv_has ls 3 [(1, .int (nI (L ++ [nI (sg tx n (p9 + 1))]).length)), (0, .ref (Z 8))] := by rw [List.length_append]; exact hl
                have hrd3 : rd_s tx n (m9 + 1) p9 L = rd_s tx n m9 (p9 + 1 + 1) (L ++ [nI (sg tx n (p9 + 1))]) := by rw [rd_s_o, if_neg hnp, if_neg hq, if_pos hbs, if_neg hes]
                exact ih (p9 + 1 + 1) (L ++ [nI (sg tx n (p9 + 1))]) _ _ _ _ ls (by omega) (by omega) (hLk.add (by omega) (by omega) (by omega)) (by rw [← hrd, hrd3]) h9e (re_let hh) hA hfr V hl
          · refine lv_iload_n hx hb d_Re_readString_62 rfl (lv_at hl 0 rfl) ?_
            refine lv_bipush (v := 92) hx hb d_Re_readString_63 (by decide) ?_
            refine lv_icmp_ne (tgt := 100) hx hb d_Re_readString_65 (by decide) (fun c19 => ?_) (fun c19 => absurd c19 (fun z => hbs ((nI_eq (b := 92) (by omega) (by decide)).mp z)))
            by_cases h24 : 24 ≤ L.length
            · refine lv_iload_n hx hb d_Re_readString_100 rfl (lv_at hl 1 rfl) ?_
              refine lv_bipush (v := 24) hx hb d_Re_readString_101 (by decide) ?_
              refine lv_icmp_lt (tgt := 111) hx hb d_Re_readString_103 (by decide) (fun c20 => absurd c20 (nI_nlt (b := 24) (by omega) (by omega))) (fun c20 => ?_)
              refine lv_aload_n hx hb d_Re_readString_106 rfl (lv_at hl 2 rfl) ?_
              refine gh_callV C V hl.1 m_Re_refused l_Re_52 (c_Re_refused l E _ _ ρ Z tx n p9 bd hA) rfl hA.1 gc_Re ⟨by first | decide | omega | (dsimp only; omega), by first | decide | omega | (dsimp only; omega)⟩ ⟨by first | decide | omega | (dsimp only; omega), by first | decide | omega | (dsimp only; omega)⟩ (Nat.le_of_ble_eq_true rfl) rfl d_Re_readString_107 (fun r fz15 H locs hp9 V1 => ?_)
              obtain ⟨rfl, hA2, hfr2⟩ := hp9
              have V := V1
              refine W.eq (g2 := F0 m 110 ls [.null]) rfl ?_
              have hA := hA2
              have hfr := re_tr hfr hfr2 (by omega)
              refine gh_reta hAe C V hr (by first | exact Or.inl ⟨_, rfl⟩ | exact Or.inr ⟨_, rfl⟩) (by first | exact Or.inl rfl | exact Or.inr ⟨_, rfl⟩) hlocks d_Re_readString_110 (by first | decide | omega | (dsimp only; omega)) (by first | decide | omega | (dsimp only; omega)) ?_
              rw [← hrd]
              rw [rd_s_o, if_neg hnp, if_neg hq, if_neg hbs, if_pos h24]
              exact ⟨⟨rfl, hA⟩, hfr⟩
            · refine lv_iload_n hx hb d_Re_readString_100 rfl (lv_at hl 1 rfl) ?_
              refine lv_bipush (v := 24) hx hb d_Re_readString_101 (by decide) ?_
              refine lv_icmp_lt (tgt := 111) hx hb d_Re_readString_103 (by decide) (fun c21 => ?_) (fun c21 => absurd (nI_lt (b := 24) (by omega) (by decide)) c21)
              refine lv_aload_n hx hb d_Re_readString_111 rfl (lv_at hl 2 rfl) ?_
              refine gh_get C V hA.1 gc_Re gi_Re 2 (by decide) f_Re_22 rfl rfl d_Re_readString_112 ?_
              refine lv_iload_n hx hb d_Re_readString_115 rfl (lv_at hl 1 rfl) ?_
              refine lv_iload_n hx hb d_Re_readString_116 rfl (lv_at hl 0 rfl) ?_
              have h9c : f1 (Z 9) = some (.inl (E.2.2.1 2, 24, .inl h)) := by exact h9
              refine gn_cast (i := L.length) C V h9c (by omega) (by decide) d_Re_readString_117 (fun H locs V1 => ?_)
              rw [(show chr (nI (tx p9)) from ⟨_, by omega, rfl⟩).vp] at V1
              obtain ⟨fl16, hffl16⟩ : ∃ z9 : gh_F, z9 = gh_u f1 (Z 9) (.inl (E.2.2.1 2, 24, .inl (upd h L.length (nI (tx p9))))) := ⟨_, rfl⟩
              have V : gh_V E A fl16 s H locs := by rw [hffl16]; exact V1
              have hA3 : re_A E ρ Z tx n fl16 (p9) bd ∧ gh_fr f1 fl16 (re_M ρ 8) := by rw [hffl16]; exact hA.let
              have hA := hA3.1
              have hfr := re_tr hfr hA3.2 (by omega)
              have h9d : fl16 (Z 9) = some (.inl (E.2.2.1 2, 24, .inl (upd h L.length (nI (tx p9))))) := by rw [hffl16, gh_us]
              refine lv_iinc (k := 1) (v := (nI L.length) + 1) hx hb d_Re_readString_118 hl rfl (by rfl) (by decide) rfl (fun ls hl => ?_)
              have hl : lv_has ls 3 [(1, .int (nI (L.length + 1))), (2, .int (nI (tx p9))), (0, .ref (Z 8))] := by rw [nI_succ]; exact hl
              refine lv_aload_n hx hb d_Re_readString_121 rfl (lv_at hl 2 rfl) ?_
              refine lv_dup hx hb d_Re_readString_122 rfl ?_
              refine gh_get C V hA.1 gc_Re gi_Re 5 (by decide) f_Re_42 rfl rfl d_Re_readString_123 ?_
              refine lv_iconst (v := 1) hx hb d_Re_readString_126 (by decide) ?_
              refine gn_iadd (a := p9) (b := 1) hx hb d_Re_readString_127 ?_
              refine gh_put C V hA.1 gc_Re gi_Re ty_Re nm_Re 5 (by decide) f_Re_42 rfl rfl rfl (Nat.le_of_ble_eq_true rfl) d_Re_readString_128 (fun H locs V1 => ?_)
              obtain ⟨fa17, hffa17⟩ : ∃ z9 : gh_F, z9 = gh_u fl16 (Z 8) (.inr (3, [.ref (Z 200), .ref (Z 208), .ref (Z 9), .ref (Z 7), .int (nI n), .int (nI (p9 + 1)), .int bd])) := ⟨_, rfl⟩
              have V : gh_V E A fa17 s H locs := by rw [hffa17]; exact V1
              have hA2 : re_A E ρ Z tx n fa17 (p9 + 1) bd ∧ gh_fr fl16 fa17 (re_M ρ 8) := by rw [hffa17]; exact hA.own
              have hA := hA2.1
              have hfr := re_tr hfr hA2.2 (by omega)
              have h9e : fa17 (Z 9) = some (.inl (E.2.2.1 2, 24, .inl (upd h L.length (nI (tx p9))))) := by rw [hffa17, gh_un (rz_ne hA.2.1.1 (by unfold rU; omega) (by unfold rU; omega) (by omega))]; exact h9d
              refine lv_goto (tgt := 12) hx hb d_Re_readString_131 (by decide) ?_
              have hl : lv_has ls 3 [(1, .int (nI (L.length + 1))), (0, .ref (Z 8))] := lv_sub hl [0, 2] rfl
              have hl : lv_has ls 3 [(1, .int (nI (L ++ [nI (tx p9)]).length)), (0, .ref (Z 8))] := by rw [List.length_append]; exact hl
              have hrd3 : rd_s tx n (m9 + 1) p9 L = rd_s tx n m9 (p9 + 1) (L ++ [nI (tx p9)]) := by rw [rd_s_o, if_neg hnp, if_neg hq, if_neg hbs, if_neg h24]
              exact ih (p9 + 1) (L ++ [nI (tx p9)]) _ _ _ _ ls (by omega) (by omega) (hLk.add (by omega) (by omega) (by omega)) (by rw [← hrd, hrd3]) h9e (re_let hh) hA hfr V hl
  obtain ⟨h0, h9⟩ := hA.2.2.1
  exact loop n (pl + 1) [] h0 _ _ _ ls (by omega) (by omega) ⟨Nat.zero_le _, fun j hj => absurd hj (Nat.not_lt_zero j)⟩ rfl h9 (fun j hj => absurd hj (Nat.not_lt_zero j)) hA hfr V hl
