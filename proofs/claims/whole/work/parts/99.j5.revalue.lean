/-! Reader: readValue, read. Printed by wip/whole/gen_re6.py. -/
theorem rv_dflt0 : ∀ k, k < 127 → (k = 34 ∨ k = 91 ∨ k = 102 ∨ k = 110 ∨ k = 116 ∨ k = 123 ∨ Op.lookupswitch.offset [(34, 99), (91, 104), (102, 71), (110, 57), (116, 85), (123, 111)] 118 (nI k).toInt = 118) := by decide +kernel
theorem rv_dflt (k : Nat) (h : k < 127) (h1 : k ≠ 34) (h2 : k ≠ 91) (h3 : k ≠ 102) (h4 : k ≠ 110) (h5 : k ≠ 116) (h6 : k ≠ 123) : Op.lookupswitch.offset [(34, 99), (91, 104), (102, 71), (110, 57), (116, 85), (123, 111)] 118 (nI k).toInt = 118 := by
  rcases rv_dflt0 k h with z | z | z | z | z | z | z
  · exact absurd z h1
  · exact absurd z h2
  · exact absurd z h3
  · exact absurd z h4
  · exact absurd z h5
  · exact absurd z h6
  · exact z
theorem rd_v_n {tx : Nat → Nat} {n d p k : Nat} {L : List Nat} (h : (if (rd_w tx n L p).2 = true then ((rd_w tx n L p).1, some (vt_0 k)) else ((rd_w tx n L p).1, none)) = (d, (none : Option vt))) : (rd_w tx n L p).1 = d ∧ (rd_w tx n L p).2 = false := by
  cases hb : (rd_w tx n L p).2 with
  | true => rw [hb, if_pos rfl] at h; cases h
  | false => rw [hb, if_neg (by decide)] at h; cases h; exact ⟨rfl, rfl⟩
theorem d_Re_readValue_0 : decode b_Re_readValue 0 = .ok (.aload_n 0, 1) := by decide +kernel
theorem d_Re_readValue_1 : decode b_Re_readValue 1 = .ok (.invokevirtual 49, 3) := by decide +kernel
theorem d_Re_readValue_4 : decode b_Re_readValue 4 = .ok (.iload_n 1, 1) := by decide +kernel
theorem d_Re_readValue_5 : decode b_Re_readValue 5 = .ok (.bipush 7, 2) := by decide +kernel
theorem d_Re_readValue_7 : decode b_Re_readValue 7 = .ok (.if_icmp .le 8, 3) := by decide +kernel
theorem d_Re_readValue_10 : decode b_Re_readValue 10 = .ok (.aload_n 0, 1) := by decide +kernel
theorem d_Re_readValue_11 : decode b_Re_readValue 11 = .ok (.invokevirtual 52, 3) := by decide +kernel
theorem d_Re_readValue_14 : decode b_Re_readValue 14 = .ok (.areturn, 1) := by decide +kernel
theorem d_Re_readValue_15 : decode b_Re_readValue 15 = .ok (.aload_n 0, 1) := by decide +kernel
theorem d_Re_readValue_16 : decode b_Re_readValue 16 = .ok (.invokevirtual 56, 3) := by decide +kernel
theorem d_Re_readValue_19 : decode b_Re_readValue 19 = .ok (.lookupswitch 118 #[(34, 99), (91, 104), (102, 71), (110, 57), (116, 85), (123, 111)], 57) := by decide +kernel
theorem d_Re_readValue_76 : decode b_Re_readValue 76 = .ok (.aload_n 0, 1) := by decide +kernel
theorem d_Re_readValue_77 : decode b_Re_readValue 77 = .ok (.ldc 60, 2) := by decide +kernel
theorem d_Re_readValue_79 : decode b_Re_readValue 79 = .ok (.aload_n 0, 1) := by decide +kernel
theorem d_Re_readValue_80 : decode b_Re_readValue 80 = .ok (.getfield 7, 3) := by decide +kernel
theorem d_Re_readValue_83 : decode b_Re_readValue 83 = .ok (.getfield 62, 3) := by decide +kernel
theorem d_Re_readValue_86 : decode b_Re_readValue 86 = .ok (.invokevirtual 68, 3) := by decide +kernel
theorem d_Re_readValue_89 : decode b_Re_readValue 89 = .ok (.areturn, 1) := by decide +kernel
theorem d_Re_readValue_90 : decode b_Re_readValue 90 = .ok (.aload_n 0, 1) := by decide +kernel
theorem d_Re_readValue_91 : decode b_Re_readValue 91 = .ok (.ldc 72, 2) := by decide +kernel
theorem d_Re_readValue_93 : decode b_Re_readValue 93 = .ok (.aload_n 0, 1) := by decide +kernel
theorem d_Re_readValue_94 : decode b_Re_readValue 94 = .ok (.getfield 7, 3) := by decide +kernel
theorem d_Re_readValue_97 : decode b_Re_readValue 97 = .ok (.getfield 74, 3) := by decide +kernel
theorem d_Re_readValue_100 : decode b_Re_readValue 100 = .ok (.invokevirtual 68, 3) := by decide +kernel
theorem d_Re_readValue_103 : decode b_Re_readValue 103 = .ok (.areturn, 1) := by decide +kernel
theorem d_Re_readValue_104 : decode b_Re_readValue 104 = .ok (.aload_n 0, 1) := by decide +kernel
theorem d_Re_readValue_105 : decode b_Re_readValue 105 = .ok (.ldc 77, 2) := by decide +kernel
theorem d_Re_readValue_107 : decode b_Re_readValue 107 = .ok (.aload_n 0, 1) := by decide +kernel
theorem d_Re_readValue_108 : decode b_Re_readValue 108 = .ok (.getfield 7, 3) := by decide +kernel
theorem d_Re_readValue_111 : decode b_Re_readValue 111 = .ok (.getfield 79, 3) := by decide +kernel
theorem d_Re_readValue_114 : decode b_Re_readValue 114 = .ok (.invokevirtual 68, 3) := by decide +kernel
theorem d_Re_readValue_117 : decode b_Re_readValue 117 = .ok (.areturn, 1) := by decide +kernel
theorem d_Re_readValue_118 : decode b_Re_readValue 118 = .ok (.aload_n 0, 1) := by decide +kernel
theorem d_Re_readValue_119 : decode b_Re_readValue 119 = .ok (.invokevirtual 82, 3) := by decide +kernel
theorem d_Re_readValue_122 : decode b_Re_readValue 122 = .ok (.areturn, 1) := by decide +kernel
theorem d_Re_readValue_123 : decode b_Re_readValue 123 = .ok (.aload_n 0, 1) := by decide +kernel
theorem d_Re_readValue_124 : decode b_Re_readValue 124 = .ok (.iload_n 1, 1) := by decide +kernel
theorem d_Re_readValue_125 : decode b_Re_readValue 125 = .ok (.iconst 0, 1) := by decide +kernel
theorem d_Re_readValue_126 : decode b_Re_readValue 126 = .ok (.invokevirtual 85, 3) := by decide +kernel
theorem d_Re_readValue_129 : decode b_Re_readValue 129 = .ok (.areturn, 1) := by decide +kernel
theorem d_Re_readValue_130 : decode b_Re_readValue 130 = .ok (.aload_n 0, 1) := by decide +kernel
theorem d_Re_readValue_131 : decode b_Re_readValue 131 = .ok (.iload_n 1, 1) := by decide +kernel
theorem d_Re_readValue_132 : decode b_Re_readValue 132 = .ok (.iconst 1, 1) := by decide +kernel
theorem d_Re_readValue_133 : decode b_Re_readValue 133 = .ok (.invokevirtual 85, 3) := by decide +kernel
theorem d_Re_readValue_136 : decode b_Re_readValue 136 = .ok (.areturn, 1) := by decide +kernel
theorem d_Re_readValue_137 : decode b_Re_readValue 137 = .ok (.aload_n 0, 1) := by decide +kernel
theorem d_Re_readValue_138 : decode b_Re_readValue 138 = .ok (.invokevirtual 89, 3) := by decide +kernel
theorem d_Re_readValue_141 : decode b_Re_readValue 141 = .ok (.areturn, 1) := by decide +kernel
set_option maxHeartbeats 4000000 in
set_option maxRecDepth 100000 in
theorem c_Re_readValue (l : Launch) (E : gh_E) (ρ Z tx : Nat → Nat) (n : Nat) : ∀ (d : Nat), re_V l E ρ Z tx n d := by
  intro d
  induction d with
  | zero =>
    intro sz f pl bd dp Q O hdp hp hR hA
    refine gh_open (by decide) (Nat.le_of_ble_eq_true rfl) ?_
    intro p e s m args below meth c A ls hAe C V hr hlocks hname hl
    have hx := C.1
    have hb := C.2.1
    have hl : lv_has ls 2 [(0, .ref (Z 8)), (1, .int (nI dp))] := hl
    have h120 := hA.n
    have hch : ∀ j, j < n → 32 ≤ tx j ∧ tx j ≤ 126 := hA.2.1.2.2.2.2.2.2.2
    have hz := hA.2.1.1
    have hfr : gh_fr f f (re_M ρ dp) := gh_fr.rf
    have hR : (rbl tx n pl, (none : Option vt)) = (Q, O) := hR
    obtain ⟨hQ, hO⟩ := Prod.mk.inj hR
    rw [← hO]
    refine lv_aload_n hx hb d_Re_readValue_0 rfl (lv_at hl 0 rfl) ?_
    refine gh_callV C V hl.1 m_Re_skipBlanks l_Re_49 (c_Re_skipBlanks l E _ _ ρ Z tx n pl bd hA (by omega)) rfl hA.1 gc_Re ⟨by first | decide | omega | (dsimp only; omega), by first | decide | omega | (dsimp only; omega)⟩ ⟨by first | decide | omega | (dsimp only; omega), by first | decide | omega | (dsimp only; omega)⟩ (Nat.le_of_ble_eq_true rfl) rfl d_Re_readValue_1 (fun r fb1 H locs hp9 V1 => ?_)
    obtain ⟨rfl, hA2, hfr2⟩ := hp9
    have V := V1
    refine W.eq (g2 := F0 m 4 ls []) rfl ?_
    have hA := hA2
    have hfr := re_tr hfr hfr2 (by omega)
    have hbl2 := rbl_le (tx := tx) (n := n) (p := pl) (by omega)
    have hbg2 := rbl_ge (tx := tx) (n := n) (p := pl)
    refine lv_iload_n hx hb d_Re_readValue_4 rfl (lv_at hl 1 rfl) ?_
    refine lv_bipush (v := 7) hx hb d_Re_readValue_5 (by decide) ?_
    refine lv_icmp_le (tgt := 15) hx hb d_Re_readValue_7 (by decide) (fun c1 => absurd c1 (fun z => absurd ((gq_le (a := dp) (b := 7) (by omega) (by omega)).mp z) (by omega))) (fun c1 => ?_)
    refine lv_aload_n hx hb d_Re_readValue_10 rfl (lv_at hl 0 rfl) ?_
    refine gh_callV C V hl.1 m_Re_refused l_Re_52 (c_Re_refused l E _ _ ρ Z tx n (rbl tx n pl) bd hA) rfl hA.1 gc_Re ⟨by first | decide | omega | (dsimp only; omega), by first | decide | omega | (dsimp only; omega)⟩ ⟨by first | decide | omega | (dsimp only; omega), by first | decide | omega | (dsimp only; omega)⟩ (Nat.le_of_ble_eq_true rfl) rfl d_Re_readValue_11 (fun r fz3 H locs hp9 V1 => ?_)
    obtain ⟨rfl, hA2, hfr2⟩ := hp9
    have V := V1
    refine W.eq (g2 := F0 m 14 ls [.null]) rfl ?_
    have hA := hA2
    have hfr := re_tr hfr hfr2 (by omega)
    refine gh_reta hAe C V hr (by first | exact Or.inl ⟨_, rfl⟩ | exact Or.inr ⟨_, rfl⟩) (by first | exact Or.inl rfl | exact Or.inr ⟨_, rfl⟩) hlocks d_Re_readValue_14 (by first | decide | omega | (dsimp only; omega)) (by first | decide | omega | (dsimp only; omega)) ?_
    exact ⟨⟨rfl, by rw [← hQ]; exact hA⟩, hfr⟩
  | succ d ihv =>
    intro sz f pl bd dp Q O hdp hp hR hA
    refine gh_open (by decide) (Nat.le_of_ble_eq_true rfl) ?_
    intro p e s m args below meth c A ls hAe C V hr hlocks hname hl
    have hx := C.1
    have hb := C.2.1
    have hl : lv_has ls 2 [(0, .ref (Z 8)), (1, .int (nI dp))] := hl
    have h120 := hA.n
    have hch : ∀ j, j < n → 32 ≤ tx j ∧ tx j ≤ 126 := hA.2.1.2.2.2.2.2.2.2
    have hz := hA.2.1.1
    have hfr : gh_fr f f (re_M ρ dp) := gh_fr.rf
    have hok := rd_v_ok hch h120 (by omega) hp hR
    refine lv_aload_n hx hb d_Re_readValue_0 rfl (lv_at hl 0 rfl) ?_
    refine gh_callV C V hl.1 m_Re_skipBlanks l_Re_49 (c_Re_skipBlanks l E _ _ ρ Z tx n pl bd hA (by omega)) rfl hA.1 gc_Re ⟨by first | decide | omega | (dsimp only; omega), by first | decide | omega | (dsimp only; omega)⟩ ⟨by first | decide | omega | (dsimp only; omega), by first | decide | omega | (dsimp only; omega)⟩ (Nat.le_of_ble_eq_true rfl) rfl d_Re_readValue_1 (fun r fb4 H locs hp9 V1 => ?_)
    obtain ⟨rfl, hA2, hfr2⟩ := hp9
    have V := V1
    refine W.eq (g2 := F0 m 4 ls []) rfl ?_
    have hA := hA2
    have hfr := re_tr hfr hfr2 (by omega)
    have hbl5 := rbl_le (tx := tx) (n := n) (p := pl) (by omega)
    have hbg5 := rbl_ge (tx := tx) (n := n) (p := pl)
    refine lv_iload_n hx hb d_Re_readValue_4 rfl (lv_at hl 1 rfl) ?_
    refine lv_bipush (v := 7) hx hb d_Re_readValue_5 (by decide) ?_
    refine lv_icmp_le (tgt := 15) hx hb d_Re_readValue_7 (by decide) (fun c2 => ?_) (fun c2 => absurd ((gq_le (a := dp) (b := 7) (by omega) (by omega)).mpr (by omega)) c2)
    refine lv_aload_n hx hb d_Re_readValue_15 rfl (lv_at hl 0 rfl) ?_
    refine gh_callV C V hl.1 m_Re_sign l_Re_56 (c_Re_sign l E _ _ ρ Z tx n (rbl tx n pl) bd hA (by omega)) rfl hA.1 gc_Re ⟨by first | decide | omega | (dsimp only; omega), by first | decide | omega | (dsimp only; omega)⟩ ⟨by first | decide | omega | (dsimp only; omega), by first | decide | omega | (dsimp only; omega)⟩ (Nat.le_of_ble_eq_true rfl) rfl d_Re_readValue_16 (fun r g6_ H locs hp9 V1 => ?_)
    obtain ⟨rfl, he9⟩ := hp9
    rw [he9] at V1
    have V := V1
    refine W.eq (g2 := F0 m 19 ls [.int (nI (sg tx n (rbl tx n pl)))]) rfl ?_
    have hc1 := (hA.ch (rbl tx n pl)).1
    unfold rd_v at hR
    by_cases hk110 : sg tx n (rbl tx n pl) = 110
    · rw [if_pos hk110] at hR
      rw [hk110]
      refine lv_lookup (off := 57) (tgt := 76) hx hb d_Re_readValue_19 (by decide) (by decide) (by decide) ?_
      refine lv_aload_n hx hb d_Re_readValue_76 rfl (lv_at hl 0 rfl) ?_
      refine gs_ldcRe (i := 0) C (gs_K C).1 d_Re_readValue_77 ?_
      refine lv_aload_n hx hb d_Re_readValue_79 rfl (lv_at hl 0 rfl) ?_
      refine gh_get C V hA.1 gc_Re gi_Re 0 (by decide) f_Re_7 rfl rfl d_Re_readValue_80 ?_
      refine gh_get C V hA.2.1.2.2.2.1.2.1 gc_Vs gi_Vs 0 (by decide) f_Re_62 rfl rfl d_Re_readValue_83 ?_
      refine gh_callV C V hl.1 m_Re_readWord l_Re_68 (c_Re_readWord l E _ _ ρ Z tx n (rbl tx n pl) bd 0 (Z 201) hA (by omega) (by decide)) rfl hA.1 gc_Re ⟨by first | decide | omega | (dsimp only; omega), by first | decide | omega | (dsimp only; omega)⟩ ⟨by first | decide | omega | (dsimp only; omega), by first | decide | omega | (dsimp only; omega)⟩ (Nat.le_of_ble_eq_true rfl) rfl d_Re_readValue_86 (fun r gw H locs hp9 V1 => ?_)
      obtain ⟨⟨rfl, hA⟩, hfr2⟩ := hp9
      have V := V1
      have hfr := re_tr hfr hfr2 (by omega)
      rw [show sc_w.getD 0 [] = [110, 117, 108, 108] from rfl] at hA
      rw [show sc_w.getD 0 [] = [110, 117, 108, 108] from rfl]
      cases hb9 : (rd_w tx n [110, 117, 108, 108] (rbl tx n pl)).2 with
      | true =>
        rw [hb9, if_pos rfl] at hA hR
        rw [if_pos rfl]
        refine W.eq (g2 := F0 m 89 ls [.ref (Z 201)]) rfl ?_
        obtain ⟨hQ, hO⟩ := Prod.mk.inj hR
        refine gh_reta hAe C V hr (by first | exact Or.inl ⟨_, rfl⟩ | exact Or.inr ⟨_, rfl⟩) (by first | exact Or.inl rfl | exact Or.inr ⟨_, rfl⟩) hlocks d_Re_readValue_89 (by first | decide | omega | (dsimp only; omega)) (by first | decide | omega | (dsimp only; omega)) ?_
        exact ⟨by rw [← hQ, ← hO]; exact ⟨⟨_, rfl, hA.2.1.2.2.2.1.2.2.1⟩, hA⟩, hfr⟩
      | false =>
        rw [hb9, if_neg (by decide)] at hA hR
        rw [if_neg (by decide)]
        refine W.eq (g2 := F0 m 89 ls [.null]) rfl ?_
        obtain ⟨hQ, hO⟩ := Prod.mk.inj hR
        refine gh_reta hAe C V hr (by first | exact Or.inl ⟨_, rfl⟩ | exact Or.inr ⟨_, rfl⟩) (by first | exact Or.inl rfl | exact Or.inr ⟨_, rfl⟩) hlocks d_Re_readValue_89 (by first | decide | omega | (dsimp only; omega)) (by first | decide | omega | (dsimp only; omega)) ?_
        exact ⟨by rw [← hQ, ← hO]; exact ⟨rfl, hA⟩, hfr⟩
    · rw [if_neg hk110] at hR
      by_cases hk102 : sg tx n (rbl tx n pl) = 102
      · rw [if_pos hk102] at hR
        rw [hk102]
        refine lv_lookup (off := 71) (tgt := 90) hx hb d_Re_readValue_19 (by decide) (by decide) (by decide) ?_
        refine lv_aload_n hx hb d_Re_readValue_90 rfl (lv_at hl 0 rfl) ?_
        refine gs_ldcRe (i := 1) C (gs_K C).2.1 d_Re_readValue_91 ?_
        refine lv_aload_n hx hb d_Re_readValue_93 rfl (lv_at hl 0 rfl) ?_
        refine gh_get C V hA.1 gc_Re gi_Re 0 (by decide) f_Re_7 rfl rfl d_Re_readValue_94 ?_
        refine gh_get C V hA.2.1.2.2.2.1.2.1 gc_Vs gi_Vs 1 (by decide) f_Re_74 rfl rfl d_Re_readValue_97 ?_
        refine gh_callV C V hl.1 m_Re_readWord l_Re_68 (c_Re_readWord l E _ _ ρ Z tx n (rbl tx n pl) bd 1 (Z 202) hA (by omega) (by decide)) rfl hA.1 gc_Re ⟨by first | decide | omega | (dsimp only; omega), by first | decide | omega | (dsimp only; omega)⟩ ⟨by first | decide | omega | (dsimp only; omega), by first | decide | omega | (dsimp only; omega)⟩ (Nat.le_of_ble_eq_true rfl) rfl d_Re_readValue_100 (fun r gw H locs hp9 V1 => ?_)
        obtain ⟨⟨rfl, hA⟩, hfr2⟩ := hp9
        have V := V1
        have hfr := re_tr hfr hfr2 (by omega)
        rw [show sc_w.getD 1 [] = [102, 97, 108, 115, 101] from rfl] at hA
        rw [show sc_w.getD 1 [] = [102, 97, 108, 115, 101] from rfl]
        cases hb9 : (rd_w tx n [102, 97, 108, 115, 101] (rbl tx n pl)).2 with
        | true =>
          rw [hb9, if_pos rfl] at hA hR
          rw [if_pos rfl]
          refine W.eq (g2 := F0 m 103 ls [.ref (Z 202)]) rfl ?_
          obtain ⟨hQ, hO⟩ := Prod.mk.inj hR
          refine gh_reta hAe C V hr (by first | exact Or.inl ⟨_, rfl⟩ | exact Or.inr ⟨_, rfl⟩) (by first | exact Or.inl rfl | exact Or.inr ⟨_, rfl⟩) hlocks d_Re_readValue_103 (by first | decide | omega | (dsimp only; omega)) (by first | decide | omega | (dsimp only; omega)) ?_
          exact ⟨by rw [← hQ, ← hO]; exact ⟨⟨_, rfl, hA.2.1.2.2.2.1.2.2.2.1⟩, hA⟩, hfr⟩
        | false =>
          rw [hb9, if_neg (by decide)] at hA hR
          rw [if_neg (by decide)]
          refine W.eq (g2 := F0 m 103 ls [.null]) rfl ?_
          obtain ⟨hQ, hO⟩ := Prod.mk.inj hR
          refine gh_reta hAe C V hr (by first | exact Or.inl ⟨_, rfl⟩ | exact Or.inr ⟨_, rfl⟩) (by first | exact Or.inl rfl | exact Or.inr ⟨_, rfl⟩) hlocks d_Re_readValue_103 (by first | decide | omega | (dsimp only; omega)) (by first | decide | omega | (dsimp only; omega)) ?_
          exact ⟨by rw [← hQ, ← hO]; exact ⟨rfl, hA⟩, hfr⟩
      · rw [if_neg hk102] at hR
        by_cases hk116 : sg tx n (rbl tx n pl) = 116
        · rw [if_pos hk116] at hR
          rw [hk116]
          refine lv_lookup (off := 85) (tgt := 104) hx hb d_Re_readValue_19 (by decide) (by decide) (by decide) ?_
          refine lv_aload_n hx hb d_Re_readValue_104 rfl (lv_at hl 0 rfl) ?_
          refine gs_ldcRe (i := 2) C (gs_K C).2.2.1 d_Re_readValue_105 ?_
          refine lv_aload_n hx hb d_Re_readValue_107 rfl (lv_at hl 0 rfl) ?_
          refine gh_get C V hA.1 gc_Re gi_Re 0 (by decide) f_Re_7 rfl rfl d_Re_readValue_108 ?_
          refine gh_get C V hA.2.1.2.2.2.1.2.1 gc_Vs gi_Vs 2 (by decide) f_Re_79 rfl rfl d_Re_readValue_111 ?_
          refine gh_callV C V hl.1 m_Re_readWord l_Re_68 (c_Re_readWord l E _ _ ρ Z tx n (rbl tx n pl) bd 2 (Z 203) hA (by omega) (by decide)) rfl hA.1 gc_Re ⟨by first | decide | omega | (dsimp only; omega), by first | decide | omega | (dsimp only; omega)⟩ ⟨by first | decide | omega | (dsimp only; omega), by first | decide | omega | (dsimp only; omega)⟩ (Nat.le_of_ble_eq_true rfl) rfl d_Re_readValue_114 (fun r gw H locs hp9 V1 => ?_)
          obtain ⟨⟨rfl, hA⟩, hfr2⟩ := hp9
          have V := V1
          have hfr := re_tr hfr hfr2 (by omega)
          rw [show sc_w.getD 2 [] = [116, 114, 117, 101] from rfl] at hA
          rw [show sc_w.getD 2 [] = [116, 114, 117, 101] from rfl]
          cases hb9 : (rd_w tx n [116, 114, 117, 101] (rbl tx n pl)).2 with
          | true =>
            rw [hb9, if_pos rfl] at hA hR
            rw [if_pos rfl]
            refine W.eq (g2 := F0 m 117 ls [.ref (Z 203)]) rfl ?_
            obtain ⟨hQ, hO⟩ := Prod.mk.inj hR
            refine gh_reta hAe C V hr (by first | exact Or.inl ⟨_, rfl⟩ | exact Or.inr ⟨_, rfl⟩) (by first | exact Or.inl rfl | exact Or.inr ⟨_, rfl⟩) hlocks d_Re_readValue_117 (by first | decide | omega | (dsimp only; omega)) (by first | decide | omega | (dsimp only; omega)) ?_
            exact ⟨by rw [← hQ, ← hO]; exact ⟨⟨_, rfl, hA.2.1.2.2.2.1.2.2.2.2.1⟩, hA⟩, hfr⟩
          | false =>
            rw [hb9, if_neg (by decide)] at hA hR
            rw [if_neg (by decide)]
            refine W.eq (g2 := F0 m 117 ls [.null]) rfl ?_
            obtain ⟨hQ, hO⟩ := Prod.mk.inj hR
            refine gh_reta hAe C V hr (by first | exact Or.inl ⟨_, rfl⟩ | exact Or.inr ⟨_, rfl⟩) (by first | exact Or.inl rfl | exact Or.inr ⟨_, rfl⟩) hlocks d_Re_readValue_117 (by first | decide | omega | (dsimp only; omega)) (by first | decide | omega | (dsimp only; omega)) ?_
            exact ⟨by rw [← hQ, ← hO]; exact ⟨rfl, hA⟩, hfr⟩
        · rw [if_neg hk116] at hR
          by_cases hk34 : sg tx n (rbl tx n pl) = 34
          · rw [if_pos hk34] at hR
            rw [hk34]
            refine lv_lookup (off := 99) (tgt := 118) hx hb d_Re_readValue_19 (by decide) (by decide) (by decide) ?_
            refine lv_aload_n hx hb d_Re_readValue_118 rfl (lv_at hl 0 rfl) ?_
            have hbn := sg_lt (by omega : sg tx n (rbl tx n pl) ≠ 0)
            refine gh_callV C V hl.1 m_Re_readString l_Re_82 (c_Re_readString l E _ _ ρ Z tx n (rbl tx n pl) bd hA hbn) rfl hA.1 gc_Re ⟨by first | decide | omega | (dsimp only; omega), by first | decide | omega | (dsimp only; omega)⟩ ⟨by first | decide | omega | (dsimp only; omega), by first | decide | omega | (dsimp only; omega)⟩ (Nat.le_of_ble_eq_true rfl) rfl d_Re_readValue_119 (fun r gt H locs hp9 V1 => ?_)
            obtain ⟨hr9, hfr2⟩ := hp9
            have V := V1
            have hfr := re_tr hfr hfr2 (by omega)
            cases hs : rd_s tx n n (rbl tx n pl + 1) [] with
            | mk q8 o8 =>
              rw [hs] at hR hr9
              cases o8 with
              | none =>
                obtain ⟨hQ, hO⟩ := Prod.mk.inj hR
                obtain ⟨rfl, hA⟩ := hr9
                refine W.eq (g2 := F0 m 122 ls [.null]) rfl ?_
                refine gh_reta hAe C V hr (by first | exact Or.inl ⟨_, rfl⟩ | exact Or.inr ⟨_, rfl⟩) (by first | exact Or.inl rfl | exact Or.inr ⟨_, rfl⟩) hlocks d_Re_readValue_122 (by first | decide | omega | (dsimp only; omega)) (by first | decide | omega | (dsimp only; omega)) ?_
                exact ⟨by rw [← hQ, ← hO]; exact ⟨rfl, hA⟩, hfr⟩
              | some L9 =>
                obtain ⟨hQ, hO⟩ := Prod.mk.inj hR
                obtain ⟨⟨kv9, rfl, hk9⟩, hA⟩ := hr9
                refine W.eq (g2 := F0 m 122 ls [.ref kv9]) rfl ?_
                have hs2 := rd_s_ok (L := []) hch (by omega) ⟨Nat.zero_le _, fun j hj => absurd hj (Nat.not_lt_zero j)⟩ hs
                refine gh_reta hAe C V hr (by first | exact Or.inl ⟨_, rfl⟩ | exact Or.inr ⟨_, rfl⟩) (by first | exact Or.inl rfl | exact Or.inr ⟨_, rfl⟩) hlocks d_Re_readValue_122 (by first | decide | omega | (dsimp only; omega)) (by first | decide | omega | (dsimp only; omega)) ?_
                exact ⟨by rw [← hQ, ← hO]; exact ⟨⟨_, rfl, hk9.cw (hs2.2.2 L9 rfl).2⟩, hA⟩, hfr⟩
          · rw [if_neg hk34] at hR
            by_cases hk91 : sg tx n (rbl tx n pl) = 91
            · rw [if_pos hk91] at hR
              rw [hk91]
              refine lv_lookup (off := 104) (tgt := 123) hx hb d_Re_readValue_19 (by decide) (by decide) (by decide) ?_
              refine lv_aload_n hx hb d_Re_readValue_123 rfl (lv_at hl 0 rfl) ?_
              refine lv_iload_n hx hb d_Re_readValue_124 rfl (lv_at hl 1 rfl) ?_
              refine lv_iconst (v := 0) hx hb d_Re_readValue_125 (by decide) ?_
              have hbn := sg_lt (by omega : sg tx n (rbl tx n pl) ≠ 0)
              have hR : rd_B tx n false d (rbl tx n pl) = (Q, O) := by rw [← hR]; rfl
              refine gh_callV C V hl.1 m_Re_readItems l_Re_85 (c_Re_readItemsF l E ρ Z tx n d ihv _ _ (rbl tx n pl) bd dp Q O (by omega) hbn hR hA) rfl hA.1 gc_Re ⟨by first | decide | omega | (dsimp only; omega), by first | decide | omega | (dsimp only; omega)⟩ ⟨by first | decide | omega | (dsimp only; omega), by first | decide | omega | (dsimp only; omega)⟩ (Nat.le_of_ble_eq_true rfl) rfl d_Re_readValue_126 (fun r gi H locs hp9 V1 => ?_)
              obtain ⟨hr9, hfr2⟩ := hp9
              have V := V1
              have hfr := hfr.tr hfr2 (fun _ _ _ z => z)
              cases O with
              | none =>
                obtain ⟨rfl, hA⟩ := hr9
                refine W.eq (g2 := F0 m 129 ls [.null]) rfl ?_
                refine gh_reta hAe C V hr (by first | exact Or.inl ⟨_, rfl⟩ | exact Or.inr ⟨_, rfl⟩) (by first | exact Or.inl rfl | exact Or.inr ⟨_, rfl⟩) hlocks d_Re_readValue_129 (by first | decide | omega | (dsimp only; omega)) (by first | decide | omega | (dsimp only; omega)) ?_
                exact ⟨⟨rfl, hA⟩, hfr⟩
              | some X9 =>
                obtain ⟨⟨v9, rfl, hv9⟩, hA⟩ := hr9
                refine W.eq (g2 := F0 m 129 ls [.ref v9]) rfl ?_
                refine gh_reta hAe C V hr (by first | exact Or.inl ⟨_, rfl⟩ | exact Or.inr ⟨_, rfl⟩) (by first | exact Or.inl rfl | exact Or.inr ⟨_, rfl⟩) hlocks d_Re_readValue_129 (by first | decide | omega | (dsimp only; omega)) (by first | decide | omega | (dsimp only; omega)) ?_
                exact ⟨⟨⟨_, rfl, hv9⟩, hA⟩, hfr⟩
            · rw [if_neg hk91] at hR
              by_cases hk123 : sg tx n (rbl tx n pl) = 123
              · rw [if_pos hk123] at hR
                rw [hk123]
                refine lv_lookup (off := 111) (tgt := 130) hx hb d_Re_readValue_19 (by decide) (by decide) (by decide) ?_
                refine lv_aload_n hx hb d_Re_readValue_130 rfl (lv_at hl 0 rfl) ?_
                refine lv_iload_n hx hb d_Re_readValue_131 rfl (lv_at hl 1 rfl) ?_
                refine lv_iconst (v := 1) hx hb d_Re_readValue_132 (by decide) ?_
                have hbn := sg_lt (by omega : sg tx n (rbl tx n pl) ≠ 0)
                have hR : rd_B tx n true d (rbl tx n pl) = (Q, O) := by rw [← hR]; rfl
                refine gh_callV C V hl.1 m_Re_readItems l_Re_85 (c_Re_readItemsT l E ρ Z tx n d ihv _ _ (rbl tx n pl) bd dp Q O (by omega) hbn hR hA) rfl hA.1 gc_Re ⟨by first | decide | omega | (dsimp only; omega), by first | decide | omega | (dsimp only; omega)⟩ ⟨by first | decide | omega | (dsimp only; omega), by first | decide | omega | (dsimp only; omega)⟩ (Nat.le_of_ble_eq_true rfl) rfl d_Re_readValue_133 (fun r gi H locs hp9 V1 => ?_)
                obtain ⟨hr9, hfr2⟩ := hp9
                have V := V1
                have hfr := hfr.tr hfr2 (fun _ _ _ z => z)
                cases O with
                | none =>
                  obtain ⟨rfl, hA⟩ := hr9
                  refine W.eq (g2 := F0 m 136 ls [.null]) rfl ?_
                  refine gh_reta hAe C V hr (by first | exact Or.inl ⟨_, rfl⟩ | exact Or.inr ⟨_, rfl⟩) (by first | exact Or.inl rfl | exact Or.inr ⟨_, rfl⟩) hlocks d_Re_readValue_136 (by first | decide | omega | (dsimp only; omega)) (by first | decide | omega | (dsimp only; omega)) ?_
                  exact ⟨⟨rfl, hA⟩, hfr⟩
                | some X9 =>
                  obtain ⟨⟨v9, rfl, hv9⟩, hA⟩ := hr9
                  refine W.eq (g2 := F0 m 136 ls [.ref v9]) rfl ?_
                  refine gh_reta hAe C V hr (by first | exact Or.inl ⟨_, rfl⟩ | exact Or.inr ⟨_, rfl⟩) (by first | exact Or.inl rfl | exact Or.inr ⟨_, rfl⟩) hlocks d_Re_readValue_136 (by first | decide | omega | (dsimp only; omega)) (by first | decide | omega | (dsimp only; omega)) ?_
                  exact ⟨⟨⟨_, rfl, hv9⟩, hA⟩, hfr⟩
              · rw [if_neg hk123] at hR
                refine lv_lookup (off := 118) (tgt := 137) hx hb d_Re_readValue_19 (by decide) (rv_dflt _ hc1 hk34 hk91 hk102 hk110 hk116 hk123) (by decide) ?_
                refine lv_aload_n hx hb d_Re_readValue_137 rfl (lv_at hl 0 rfl) ?_
                refine gh_callV C V hl.1 m_Re_readInteger l_Re_89 (c_Re_readInteger l E _ _ ρ Z tx n (rbl tx n pl) bd hA (by omega)) rfl hA.1 gc_Re ⟨by first | decide | omega | (dsimp only; omega), by first | decide | omega | (dsimp only; omega)⟩ ⟨by first | decide | omega | (dsimp only; omega), by first | decide | omega | (dsimp only; omega)⟩ (Nat.le_of_ble_eq_true rfl) rfl d_Re_readValue_138 (fun r gt H locs hp9 V1 => ?_)
                obtain ⟨hr9, hfr2⟩ := hp9
                have V := V1
                have hfr := re_tr hfr hfr2 (by omega)
                cases hs : rd_i tx n false (rbl tx n pl) with
                | mk q8 o8 =>
                  rw [hs] at hR hr9
                  cases o8 with
                  | none =>
                    obtain ⟨hQ, hO⟩ := Prod.mk.inj hR
                    obtain ⟨rfl, hA⟩ := hr9
                    refine W.eq (g2 := F0 m 141 ls [.null]) rfl ?_
                    refine gh_reta hAe C V hr (by first | exact Or.inl ⟨_, rfl⟩ | exact Or.inr ⟨_, rfl⟩) (by first | exact Or.inl rfl | exact Or.inr ⟨_, rfl⟩) hlocks d_Re_readValue_141 (by first | decide | omega | (dsimp only; omega)) (by first | decide | omega | (dsimp only; omega)) ?_
                    exact ⟨by rw [← hQ, ← hO]; exact ⟨rfl, hA⟩, hfr⟩
                  | some L9 =>
                    obtain ⟨hQ, hO⟩ := Prod.mk.inj hR
                    obtain ⟨⟨v9, rfl, hv9⟩, hA⟩ := hr9
                    refine W.eq (g2 := F0 m 141 ls [.ref v9]) rfl ?_
                    refine gh_reta hAe C V hr (by first | exact Or.inl ⟨_, rfl⟩ | exact Or.inr ⟨_, rfl⟩) (by first | exact Or.inl rfl | exact Or.inr ⟨_, rfl⟩) hlocks d_Re_readValue_141 (by first | decide | omega | (dsimp only; omega)) (by first | decide | omega | (dsimp only; omega)) ?_
                    exact ⟨by rw [← hQ, ← hO]; exact ⟨⟨_, rfl, hv9⟩, hA⟩, hfr⟩
theorem d_Re_read_0 : decode b_Re_read 0 = .ok (.aload_n 0, 1) := by decide +kernel
theorem d_Re_read_1 : decode b_Re_read 1 = .ok (.aload_n 1, 1) := by decide +kernel
theorem d_Re_read_2 : decode b_Re_read 2 = .ok (.putfield 30, 3) := by decide +kernel
theorem d_Re_read_5 : decode b_Re_read 5 = .ok (.aload_n 0, 1) := by decide +kernel
theorem d_Re_read_6 : decode b_Re_read 6 = .ok (.iload_n 2, 1) := by decide +kernel
theorem d_Re_read_7 : decode b_Re_read 7 = .ok (.aload_n 1, 1) := by decide +kernel
theorem d_Re_read_8 : decode b_Re_read 8 = .ok (.arraylength, 1) := by decide +kernel
theorem d_Re_read_9 : decode b_Re_read 9 = .ok (.invokestatic 33, 3) := by decide +kernel
theorem d_Re_read_12 : decode b_Re_read 12 = .ok (.putfield 39, 3) := by decide +kernel
theorem d_Re_read_15 : decode b_Re_read 15 = .ok (.aload_n 0, 1) := by decide +kernel
theorem d_Re_read_16 : decode b_Re_read 16 = .ok (.iconst 0, 1) := by decide +kernel
theorem d_Re_read_17 : decode b_Re_read 17 = .ok (.putfield 42, 3) := by decide +kernel
theorem d_Re_read_20 : decode b_Re_read 20 = .ok (.aload_n 0, 1) := by decide +kernel
theorem d_Re_read_21 : decode b_Re_read 21 = .ok (.iconst (-1), 1) := by decide +kernel
theorem d_Re_read_22 : decode b_Re_read 22 = .ok (.putfield 26, 3) := by decide +kernel
theorem d_Re_read_25 : decode b_Re_read 25 = .ok (.aload_n 0, 1) := by decide +kernel
theorem d_Re_read_26 : decode b_Re_read 26 = .ok (.iconst 0, 1) := by decide +kernel
theorem d_Re_read_27 : decode b_Re_read 27 = .ok (.invokevirtual 45, 3) := by decide +kernel
theorem d_Re_read_30 : decode b_Re_read 30 = .ok (.astore_n 3, 1) := by decide +kernel
theorem d_Re_read_31 : decode b_Re_read 31 = .ok (.aload_n 3, 1) := by decide +kernel
theorem d_Re_read_32 : decode b_Re_read 32 = .ok (.ifnonnull 5, 3) := by decide +kernel
theorem d_Re_read_35 : decode b_Re_read 35 = .ok (.aconst_null, 1) := by decide +kernel
theorem d_Re_read_36 : decode b_Re_read 36 = .ok (.areturn, 1) := by decide +kernel
theorem d_Re_read_37 : decode b_Re_read 37 = .ok (.aload_n 0, 1) := by decide +kernel
theorem d_Re_read_38 : decode b_Re_read 38 = .ok (.invokevirtual 49, 3) := by decide +kernel
theorem d_Re_read_41 : decode b_Re_read 41 = .ok (.aload_n 0, 1) := by decide +kernel
theorem d_Re_read_42 : decode b_Re_read 42 = .ok (.getfield 42, 3) := by decide +kernel
theorem d_Re_read_45 : decode b_Re_read 45 = .ok (.aload_n 0, 1) := by decide +kernel
theorem d_Re_read_46 : decode b_Re_read 46 = .ok (.getfield 39, 3) := by decide +kernel
theorem d_Re_read_49 : decode b_Re_read 49 = .ok (.if_icmp .ge 10, 3) := by decide +kernel
theorem d_Re_read_52 : decode b_Re_read 52 = .ok (.aload_n 0, 1) := by decide +kernel
theorem d_Re_read_53 : decode b_Re_read 53 = .ok (.invokevirtual 52, 3) := by decide +kernel
theorem d_Re_read_56 : decode b_Re_read 56 = .ok (.goto 4, 3) := by decide +kernel
theorem d_Re_read_59 : decode b_Re_read 59 = .ok (.aload_n 3, 1) := by decide +kernel
theorem d_Re_read_60 : decode b_Re_read 60 = .ok (.areturn, 1) := by decide +kernel
set_option maxHeartbeats 4000000 in
set_option maxRecDepth 100000 in
theorem c_Re_read (l : Launch) (E : gh_E) (sz : Nat) (f : gh_F) (ρ Z tx : Nat → Nat) (n : Nat) (tv : Value) (i1 i2 i3 : Int32) (h8 : f (Z 8) = some (.inr (3, [.ref (Z 200), .ref (Z 208), .ref (Z 9), tv, .int i1, .int i2, .int i3]))) (hK : re_K E ρ Z tx n f) (h9 : ∃ h : Nat → Int32, f (Z 9) = some (.inl (E.2.2.1 2, 24, .inl h))) (hG : re_G E ρ Z f) : gh_M l y_Re_read b_Re_read 4 (some (.object "QueryMachine$Value")) E sz [.ref (Z 8), .ref (Z 7), .int (nI n)] f { frames := 50, cells := 484, slots := 7260, locals := 1400 } (fun r g => re_O E ρ Z tx n g (-1) (rd_a tx n false) r ∧ gh_fr f g (re_M ρ 0)) := by
  refine gh_open (by decide) (Nat.le_of_ble_eq_true rfl) ?_
  intro p e s m args below meth c A ls hAe C V hr hlocks hname hl
  have hx := C.1
  have hb := C.2.1
  have hl : lv_has ls 4 [(0, .ref (Z 8)), (1, .ref (Z 7)), (2, .int (nI n))] := hl
  have hz := hK.1
  have e8 : ρ (Z 8) = 8 := hz 8 (by unfold rU; omega)
  have e7 : ρ (Z 7) = 7 := hz 7 (by unfold rU; omega)
  have e9 : ρ (Z 9) = 9 := hz 9 (by unfold rU; omega)
  have h120 : n ≤ 120 := hK.2.2.2.2.2.2.1
  obtain ⟨t7, h7, -⟩ := id hK.2.2.2.2.2.1
  have hfr : gh_fr f f (fun b => ρ b = 8) := gh_fr.rf
  refine lv_aload_n hx hb d_Re_read_0 rfl (lv_at hl 0 rfl) ?_
  refine lv_aload_n hx hb d_Re_read_1 rfl (lv_at hl 1 rfl) ?_
  refine gh_put C V h8 gc_Re gi_Re ty_Re nm_Re 3 (by decide) f_Re_30 rfl rfl rfl (Nat.le_of_ble_eq_true rfl) d_Re_read_2 (fun H locs V1 => ?_)
  obtain ⟨fa, hfa⟩ : ∃ z9 : gh_F, z9 = gh_u f (Z 8) (.inr (3, [.ref (Z 200), .ref (Z 208), .ref (Z 9), .ref (Z 7), .int i1, .int i2, .int i3])) := ⟨_, rfl⟩
  have V : gh_V E A fa s H locs := by rw [hfa]; exact V1
  have h8 : fa (Z 8) = some (.inr (3, [.ref (Z 200), .ref (Z 208), .ref (Z 9), .ref (Z 7), .int i1, .int i2, .int i3])) := by rw [hfa]; exact gh_us
  have hfr : gh_fr f fa (fun b => ρ b = 8) := by rw [hfa]; exact hfr.put (Or.inl e8)
  refine W.eq (g2 := F0 m 5 ls []) rfl ?_
  have h7a := hfr.at h7 (fun z => by have z : ρ (Z 7) = 8 := z; omega)
  refine lv_aload_n hx hb d_Re_read_5 rfl (lv_at hl 0 rfl) ?_
  refine lv_iload_n hx hb d_Re_read_6 rfl (lv_at hl 2 rfl) ?_
  refine lv_aload_n hx hb d_Re_read_7 rfl (lv_at hl 1 rfl) ?_
  refine gh_alen (t0 := 2) C V rfl h7a (v := nI 120) rfl d_Re_read_8 ?_
  refine gs_min (x := n) (y := 120) C hl.1 h120 (by decide) ⟨by decide, by decide⟩ (Nat.le_of_ble_eq_true rfl) ⟨by decide, by decide⟩ d_Re_read_9 ?_
  refine W.eq (g2 := F0 m 12 ls [.int (nI n), .ref (Z 8)]) rfl ?_
  refine gh_put C V h8 gc_Re gi_Re ty_Re nm_Re 4 (by decide) f_Re_39 rfl rfl rfl (Nat.le_of_ble_eq_true rfl) d_Re_read_12 (fun H locs V1 => ?_)
  obtain ⟨fb2, hfb2⟩ : ∃ z9 : gh_F, z9 = gh_u fa (Z 8) (.inr (3, [.ref (Z 200), .ref (Z 208), .ref (Z 9), .ref (Z 7), .int (nI n), .int i2, .int i3])) := ⟨_, rfl⟩
  have V : gh_V E A fb2 s H locs := by rw [hfb2]; exact V1
  have h8 : fb2 (Z 8) = some (.inr (3, [.ref (Z 200), .ref (Z 208), .ref (Z 9), .ref (Z 7), .int (nI n), .int i2, .int i3])) := by rw [hfb2]; exact gh_us
  have hfr : gh_fr f fb2 (fun b => ρ b = 8) := by rw [hfb2]; exact hfr.put (Or.inl e8)
  refine W.eq (g2 := F0 m 15 ls []) rfl ?_
  refine lv_aload_n hx hb d_Re_read_15 rfl (lv_at hl 0 rfl) ?_
  refine lv_iconst (v := 0) hx hb d_Re_read_16 (by decide) ?_
  refine gh_put C V h8 gc_Re gi_Re ty_Re nm_Re 5 (by decide) f_Re_42 rfl rfl rfl (Nat.le_of_ble_eq_true rfl) d_Re_read_17 (fun H locs V1 => ?_)
  obtain ⟨fc, hfc⟩ : ∃ z9 : gh_F, z9 = gh_u fb2 (Z 8) (.inr (3, [.ref (Z 200), .ref (Z 208), .ref (Z 9), .ref (Z 7), .int (nI n), .int (nI 0), .int i3])) := ⟨_, rfl⟩
  have V : gh_V E A fc s H locs := by rw [hfc]; exact V1
  have h8 : fc (Z 8) = some (.inr (3, [.ref (Z 200), .ref (Z 208), .ref (Z 9), .ref (Z 7), .int (nI n), .int (nI 0), .int i3])) := by rw [hfc]; exact gh_us
  have hfr : gh_fr f fc (fun b => ρ b = 8) := by rw [hfc]; exact hfr.put (Or.inl e8)
  refine W.eq (g2 := F0 m 20 ls []) rfl ?_
  refine lv_aload_n hx hb d_Re_read_20 rfl (lv_at hl 0 rfl) ?_
  refine lv_iconst (v := (-1)) hx hb d_Re_read_21 (by decide) ?_
  refine gh_put C V h8 gc_Re gi_Re ty_Re nm_Re 6 (by decide) f_Re_26 rfl rfl rfl (Nat.le_of_ble_eq_true rfl) d_Re_read_22 (fun H locs V1 => ?_)
  obtain ⟨fd, hfd⟩ : ∃ z9 : gh_F, z9 = gh_u fc (Z 8) (.inr (3, [.ref (Z 200), .ref (Z 208), .ref (Z 9), .ref (Z 7), .int (nI n), .int (nI 0), .int ((-1))])) := ⟨_, rfl⟩
  have V : gh_V E A fd s H locs := by rw [hfd]; exact V1
  have h8 : fd (Z 8) = some (.inr (3, [.ref (Z 200), .ref (Z 208), .ref (Z 9), .ref (Z 7), .int (nI n), .int (nI 0), .int ((-1))])) := by rw [hfd]; exact gh_us
  have hfr : gh_fr f fd (fun b => ρ b = 8) := by rw [hfd]; exact hfr.put (Or.inl e8)
  refine W.eq (g2 := F0 m 25 ls []) rfl ?_
  have hA : re_A E ρ Z tx n fd 0 (-1) := ⟨h8, hK.keep hfr (fun b hb => by have hb : ρ b = 8 := hb; omega), h9.elim (fun h9x h9y => ⟨h9x, hfr.at h9y (fun z => by have z : ρ (Z 9) = 8 := z; omega)⟩), hG.keep hz hfr (fun b hb => by have hb : ρ b = 8 := hb; omega)⟩
  have hfr : gh_fr f fd (re_M ρ 0) := hfr.wide (fun b hb => Or.inl hb)
  refine lv_aload_n hx hb d_Re_read_25 rfl (lv_at hl 0 rfl) ?_
  refine lv_iconst (v := 0) hx hb d_Re_read_26 (by decide) ?_
  cases hv : rd_v tx n false 8 0 with
  | mk Q O =>
    have hok := rd_v_ok hA.2.1.2.2.2.2.2.2.2 h120 (Nat.le_refl _) (Nat.zero_le _) hv
    refine W.eq (g2 := F0 m 27 ls [.int (nI 0), .ref (Z 8)]) rfl ?_
    refine gh_callV C V hl.1 m_Re_readValue l_Re_45 (c_Re_readValue l E ρ Z tx n 8 _ _ 0 (-1) 0 Q O rfl (Nat.zero_le _) hv hA) rfl hA.1 gc_Re ⟨by first | decide | omega | (dsimp only; omega), by first | decide | omega | (dsimp only; omega)⟩ ⟨by first | decide | omega | (dsimp only; omega), by first | decide | omega | (dsimp only; omega)⟩ (Nat.le_of_ble_eq_true rfl) rfl d_Re_read_27 (fun r gv H locs hp9 V1 => ?_)
    obtain ⟨hr9, hfr2⟩ := hp9
    have V := V1
    have hfr := hfr.tr hfr2 (fun _ _ _ z => z)
    cases O with
    | none =>
      have hRA : rd_a tx n false = (Q, none) := by unfold rd_a; rw [hv]
      rw [hRA]
      obtain ⟨rfl, hA⟩ := hr9
      refine W.eq (g2 := F0 m 30 ls [.null]) rfl ?_
      refine lv_astore_nN hx hb d_Re_read_30 rfl hl (by decide) rfl (fun ls hl => ?_)
      have hl : lv_has ls 4 [(3, .null), (0, .ref (Z 8)), (1, .ref (Z 7)), (2, .int (nI n))] := hl
      refine lv_aload_nN hx hb d_Re_read_31 rfl (lv_at hl 0 rfl) ?_
      refine lv_ifnonnullN hx hb d_Re_read_32 ?_
      refine lv_null hx hb d_Re_read_35 ?_
      refine gh_reta hAe C V hr (by first | exact Or.inl ⟨_, rfl⟩ | exact Or.inr ⟨_, rfl⟩) (by first | exact Or.inl rfl | exact Or.inr ⟨_, rfl⟩) hlocks d_Re_read_36 (by first | decide | omega | (dsimp only; omega)) (by first | decide | omega | (dsimp only; omega)) ?_
      exact ⟨⟨rfl, hA⟩, hfr⟩
    | some X9 =>
      have hRA : rd_a tx n false = if rbl tx n Q < n then (rbl tx n Q, none) else (rbl tx n Q, some X9) := by unfold rd_a; rw [hv]
      rw [hRA]
      obtain ⟨⟨v9, rfl, hv9⟩, hA⟩ := hr9
      refine W.eq (g2 := F0 m 30 ls [.ref v9]) rfl ?_
      refine lv_astore_n hx hb d_Re_read_30 rfl hl (by decide) rfl (fun ls hl => ?_)
      have hl : lv_has ls 4 [(3, .ref v9), (0, .ref (Z 8)), (1, .ref (Z 7)), (2, .int (nI n))] := hl
      refine lv_aload_n hx hb d_Re_read_31 rfl (lv_at hl 0 rfl) ?_
      refine lv_ifnonnull (tgt := 37) hx hb d_Re_read_32 (by decide) ?_
      refine lv_aload_n hx hb d_Re_read_37 rfl (lv_at hl 1 rfl) ?_
      refine gh_callV C V hl.1 m_Re_skipBlanks l_Re_49 (c_Re_skipBlanks l E _ _ ρ Z tx n Q ((-1)) hA (by omega)) rfl hA.1 gc_Re ⟨by first | decide | omega | (dsimp only; omega), by first | decide | omega | (dsimp only; omega)⟩ ⟨by first | decide | omega | (dsimp only; omega), by first | decide | omega | (dsimp only; omega)⟩ (Nat.le_of_ble_eq_true rfl) rfl d_Re_read_38 (fun r fb1 H locs hp9 V1 => ?_)
      obtain ⟨rfl, hA2, hfr2⟩ := hp9
      have V := V1
      refine W.eq (g2 := F0 m 41 ls []) rfl ?_
      have hA := hA2
      have hfr := re_tr hfr hfr2 (by omega)
      have hbl2 := rbl_le (tx := tx) (n := n) (p := Q) (by omega)
      have hbg2 := rbl_ge (tx := tx) (n := n) (p := Q)
      have hv9 := hv9.keep hfr2 re_M.P
      by_cases hlt : rbl tx n Q < n
      · rw [if_pos hlt]
        refine lv_aload_n hx hb d_Re_read_41 rfl (lv_at hl 1 rfl) ?_
        refine gh_get C V hA.1 gc_Re gi_Re 5 (by decide) f_Re_42 rfl rfl d_Re_read_42 ?_
        refine lv_aload_n hx hb d_Re_read_45 rfl (lv_at hl 1 rfl) ?_
        refine gh_get C V hA.1 gc_Re gi_Re 4 (by decide) f_Re_39 rfl rfl d_Re_read_46 ?_
        refine lv_icmp_ge (tgt := 59) hx hb d_Re_read_49 (by decide) (fun c1 => absurd c1 (nI_ge hlt (by omega))) (fun c1 => ?_)
        refine lv_aload_n hx hb d_Re_read_52 rfl (lv_at hl 1 rfl) ?_
        refine gh_callV C V hl.1 m_Re_refused l_Re_52 (c_Re_refused l E _ _ ρ Z tx n (rbl tx n Q) ((-1)) hA) rfl hA.1 gc_Re ⟨by first | decide | omega | (dsimp only; omega), by first | decide | omega | (dsimp only; omega)⟩ ⟨by first | decide | omega | (dsimp only; omega), by first | decide | omega | (dsimp only; omega)⟩ (Nat.le_of_ble_eq_true rfl) rfl d_Re_read_53 (fun r fz3 H locs hp9 V1 => ?_)
        obtain ⟨rfl, hA2, hfr2⟩ := hp9
        have V := V1
        refine W.eq (g2 := F0 m 56 ls [.null]) rfl ?_
        have hA := hA2
        have hfr := re_tr hfr hfr2 (by omega)
        refine lv_goto (tgt := 60) hx hb d_Re_read_56 (by decide) ?_
        refine gh_reta hAe C V hr (by first | exact Or.inl ⟨_, rfl⟩ | exact Or.inr ⟨_, rfl⟩) (by first | exact Or.inl rfl | exact Or.inr ⟨_, rfl⟩) hlocks d_Re_read_60 (by first | decide | omega | (dsimp only; omega)) (by first | decide | omega | (dsimp only; omega)) ?_
        exact ⟨⟨rfl, hA⟩, hfr⟩
      · rw [if_neg hlt]
        refine lv_aload_n hx hb d_Re_read_41 rfl (lv_at hl 1 rfl) ?_
        refine gh_get C V hA.1 gc_Re gi_Re 5 (by decide) f_Re_42 rfl rfl d_Re_read_42 ?_
        refine lv_aload_n hx hb d_Re_read_45 rfl (lv_at hl 1 rfl) ?_
        refine gh_get C V hA.1 gc_Re gi_Re 4 (by decide) f_Re_39 rfl rfl d_Re_read_46 ?_
        refine lv_icmp_ge (tgt := 59) hx hb d_Re_read_49 (by decide) (fun c2 => ?_) (fun c2 => absurd (nI_le (by omega) (by omega)) c2)
        refine lv_aload_n hx hb d_Re_read_59 rfl (lv_at hl 0 rfl) ?_
        refine gh_reta hAe C V hr (by first | exact Or.inl ⟨_, rfl⟩ | exact Or.inr ⟨_, rfl⟩) (by first | exact Or.inl rfl | exact Or.inr ⟨_, rfl⟩) hlocks d_Re_read_60 (by first | decide | omega | (dsimp only; omega)) (by first | decide | omega | (dsimp only; omega)) ?_
        exact ⟨⟨⟨_, rfl, hv9⟩, hA⟩, hfr⟩
