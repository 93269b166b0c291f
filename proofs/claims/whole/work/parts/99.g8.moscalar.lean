/-! scalar, key, enterOpen of the model. Printed by wip/whole/gen_mo37.py. -/
/-- a scalar, from its first character on -/
def rd_c (tx : Nat → Nat) (n : Nat) (zb : Bool) (p : Nat) : Nat × Option vt :=
  if sg tx n p = 110 then (if (rd_w tx n [110, 117, 108, 108] p).2 = true then ((rd_w tx n [110, 117, 108, 108] p).1, some (vt_0 0)) else ((rd_w tx n [110, 117, 108, 108] p).1, none))
  else if sg tx n p = 102 then (if (rd_w tx n [102, 97, 108, 115, 101] p).2 = true then ((rd_w tx n [102, 97, 108, 115, 101] p).1, some (vt_0 1)) else ((rd_w tx n [102, 97, 108, 115, 101] p).1, none))
  else if sg tx n p = 116 then (if (rd_w tx n [116, 114, 117, 101] p).2 = true then ((rd_w tx n [116, 114, 117, 101] p).1, some (vt_0 2)) else ((rd_w tx n [116, 114, 117, 101] p).1, none))
  else if sg tx n p = 34 then (match rd_s tx n n (p + 1) [] with
    | (q, none) => (q, none)
    | (q, some L) => (q, some (vt_t L)))
  else match rd_i tx n zb p with
    | (q, none) => (q, none)
    | (q, some z) => (q, some (vt_i z))
theorem rd_v_c {tx : Nat → Nat} {n : Nat} {zb : Bool} {d p : Nat} (h1 : sg tx n (rbl tx n p) ≠ 91) (h2 : sg tx n (rbl tx n p) ≠ 123) : rd_v tx n zb (d + 1) p = rd_c tx n zb (rbl tx n p) := by
  unfold rd_v rd_c
  rw [if_neg h1, if_neg h2]
  rfl
theorem rO.map {bd : Bool} {S S2 : Nat → Int32} {I I2 : mo_I} {J J2 : mo_J} {nv np : Nat} {o o2 : Option vt} (h : rO bd S I J nv np o S2 I2 J2) (e : o = o2) : rO bd S I J nv np o2 S2 I2 J2 := by rw [← e]; exact h
theorem d_Mo_scalar_0 : decode b_Mo_scalar 0 = .ok (.aload_n 0, 1) := by decide +kernel
theorem d_Mo_scalar_1 : decode b_Mo_scalar 1 = .ok (.invokevirtual 185, 3) := by decide +kernel
theorem d_Mo_scalar_4 : decode b_Mo_scalar 4 = .ok (.istore_n 1, 1) := by decide +kernel
theorem d_Mo_scalar_5 : decode b_Mo_scalar 5 = .ok (.iload_n 1, 1) := by decide +kernel
theorem d_Mo_scalar_6 : decode b_Mo_scalar 6 = .ok (.bipush 110, 2) := by decide +kernel
theorem d_Mo_scalar_8 : decode b_Mo_scalar 8 = .ok (.if_icmp .ne 17, 3) := by decide +kernel
theorem d_Mo_scalar_11 : decode b_Mo_scalar 11 = .ok (.aload_n 0, 1) := by decide +kernel
theorem d_Mo_scalar_12 : decode b_Mo_scalar 12 = .ok (.iconst 0, 1) := by decide +kernel
theorem d_Mo_scalar_13 : decode b_Mo_scalar 13 = .ok (.bipush 110, 2) := by decide +kernel
theorem d_Mo_scalar_15 : decode b_Mo_scalar 15 = .ok (.bipush 117, 2) := by decide +kernel
theorem d_Mo_scalar_17 : decode b_Mo_scalar 17 = .ok (.bipush 108, 2) := by decide +kernel
theorem d_Mo_scalar_19 : decode b_Mo_scalar 19 = .ok (.bipush 108, 2) := by decide +kernel
theorem d_Mo_scalar_21 : decode b_Mo_scalar 21 = .ok (.invokevirtual 220, 3) := by decide +kernel
theorem d_Mo_scalar_24 : decode b_Mo_scalar 24 = .ok (.ireturn, 1) := by decide +kernel
theorem d_Mo_scalar_25 : decode b_Mo_scalar 25 = .ok (.iload_n 1, 1) := by decide +kernel
theorem d_Mo_scalar_26 : decode b_Mo_scalar 26 = .ok (.bipush 116, 2) := by decide +kernel
theorem d_Mo_scalar_28 : decode b_Mo_scalar 28 = .ok (.if_icmp .ne 17, 3) := by decide +kernel
theorem d_Mo_scalar_31 : decode b_Mo_scalar 31 = .ok (.aload_n 0, 1) := by decide +kernel
theorem d_Mo_scalar_32 : decode b_Mo_scalar 32 = .ok (.iconst 2, 1) := by decide +kernel
theorem d_Mo_scalar_33 : decode b_Mo_scalar 33 = .ok (.bipush 116, 2) := by decide +kernel
theorem d_Mo_scalar_35 : decode b_Mo_scalar 35 = .ok (.bipush 114, 2) := by decide +kernel
theorem d_Mo_scalar_37 : decode b_Mo_scalar 37 = .ok (.bipush 117, 2) := by decide +kernel
theorem d_Mo_scalar_39 : decode b_Mo_scalar 39 = .ok (.bipush 101, 2) := by decide +kernel
theorem d_Mo_scalar_41 : decode b_Mo_scalar 41 = .ok (.invokevirtual 220, 3) := by decide +kernel
theorem d_Mo_scalar_44 : decode b_Mo_scalar 44 = .ok (.ireturn, 1) := by decide +kernel
theorem d_Mo_scalar_45 : decode b_Mo_scalar 45 = .ok (.iload_n 1, 1) := by decide +kernel
theorem d_Mo_scalar_46 : decode b_Mo_scalar 46 = .ok (.bipush 102, 2) := by decide +kernel
theorem d_Mo_scalar_48 : decode b_Mo_scalar 48 = .ok (.if_icmp .ne 17, 3) := by decide +kernel
theorem d_Mo_scalar_51 : decode b_Mo_scalar 51 = .ok (.aload_n 0, 1) := by decide +kernel
theorem d_Mo_scalar_52 : decode b_Mo_scalar 52 = .ok (.iconst 1, 1) := by decide +kernel
theorem d_Mo_scalar_53 : decode b_Mo_scalar 53 = .ok (.bipush 102, 2) := by decide +kernel
theorem d_Mo_scalar_55 : decode b_Mo_scalar 55 = .ok (.bipush 97, 2) := by decide +kernel
theorem d_Mo_scalar_57 : decode b_Mo_scalar 57 = .ok (.bipush 108, 2) := by decide +kernel
theorem d_Mo_scalar_59 : decode b_Mo_scalar 59 = .ok (.bipush 115, 2) := by decide +kernel
theorem d_Mo_scalar_61 : decode b_Mo_scalar 61 = .ok (.invokevirtual 220, 3) := by decide +kernel
theorem d_Mo_scalar_64 : decode b_Mo_scalar 64 = .ok (.ireturn, 1) := by decide +kernel
theorem d_Mo_scalar_65 : decode b_Mo_scalar 65 = .ok (.iload_n 1, 1) := by decide +kernel
theorem d_Mo_scalar_66 : decode b_Mo_scalar 66 = .ok (.bipush 34, 2) := by decide +kernel
theorem d_Mo_scalar_68 : decode b_Mo_scalar 68 = .ok (.if_icmp .ne 10, 3) := by decide +kernel
theorem d_Mo_scalar_71 : decode b_Mo_scalar 71 = .ok (.aload_n 0, 1) := by decide +kernel
theorem d_Mo_scalar_72 : decode b_Mo_scalar 72 = .ok (.invokevirtual 217, 3) := by decide +kernel
theorem d_Mo_scalar_75 : decode b_Mo_scalar 75 = .ok (.goto 7, 3) := by decide +kernel
theorem d_Mo_scalar_78 : decode b_Mo_scalar 78 = .ok (.aload_n 0, 1) := by decide +kernel
theorem d_Mo_scalar_79 : decode b_Mo_scalar 79 = .ok (.invokevirtual 224, 3) := by decide +kernel
theorem d_Mo_scalar_82 : decode b_Mo_scalar 82 = .ok (.ireturn, 1) := by decide +kernel
set_option maxHeartbeats 4000000 in
set_option maxRecDepth 100000 in
theorem c_Mo_scalarF (l : Launch) (E : gh_E) (sz : Nat) (f : gh_F) (a : Nat) (ad : Nat → Nat) (S : Nat → Int32) (I : Nat → Nat → Int32) (J : Nat → Nat → Int64) (tx : Nat → Nat) (n pl : Nat) (nv np : Nat) (hX : mo_R E f a ad S I J) (hT : rT tx n S I) (h21 : S 21 = nI pl) (hp : pl ≤ n) (h27 : S 27 = 0) : gh_M l y_Mo_scalar b_Mo_scalar 2 (some .boolean) E sz [.ref a] f { frames := 10, cells := 0, slots := 0, locals := 240 } (fun r g => r = some (.int (gh_bi (rd_c tx n true pl).2.isSome)) ∧ ∃ S2 I2 J2, mo_X E f g a ad S2 I2 J2 ∧ S2 21 = nI (rd_c tx n true pl).1 ∧ rO false S I J nv np (rd_c tx n true pl).2 S2 I2 J2) := by
  have hsg := (hT.ch pl).1
  have hS21 := h21
  refine gh_open (by decide) (Nat.le_of_ble_eq_true rfl) ?_
  intro p e s m args below meth c A ls hAe C V hr hlocks hname hl
  have hx := C.1
  have hb := C.2.1
  have hl : lv_has ls 2 [(0, .ref a)] := hl
  have X : mo_X E f f a ad S I J := ⟨hX, gh_fr.rf⟩
  rcases (show sg tx n pl = 110 ∨ sg tx n pl = 102 ∨ sg tx n pl = 116 ∨ sg tx n pl = 34 ∨ (sg tx n pl ≠ 110 ∧ sg tx n pl ≠ 102 ∧ sg tx n pl ≠ 116 ∧ sg tx n pl ≠ 34) by omega) with hk | hk | hk | hk | hk
  · refine lv_aload_n hx hb d_Mo_scalar_0 rfl (lv_at hl 0 rfl) ?_
    refine gh_callV C V hl.1 m_Mo_peek l_Mo_185 (c_Mo_pk l E _ _ a ad _ _ _ tx n pl X.1 hT h21 (by omega)) rfl X.1.1 gc_Mo ⟨by first | decide | omega | (dsimp only; omega), by first | decide | omega | (dsimp only; omega)⟩ ⟨by first | decide | omega | (dsimp only; omega), by first | decide | omega | (dsimp only; omega)⟩ (Nat.le_of_ble_eq_true rfl) rfl d_Mo_scalar_1 (fun r z9 H locs hp9 V1 => ?_)
    obtain ⟨rfl, he9⟩ := hp9
    rw [he9] at V1
    have V := V1
    refine W.eq (g2 := F0 m 4 ls [.int (pek (sg tx n pl))]) rfl ?_
    refine lv_istore_n hx hb d_Mo_scalar_4 rfl hl (by decide) rfl (fun ls hl => ?_)
    have hl : lv_has ls 2 [(1, .int (pek (sg tx n pl))), (0, .ref a)] := hl
    refine lv_iload_n hx hb d_Mo_scalar_5 rfl (lv_at hl 0 rfl) ?_
    refine lv_bipush (v := 110) hx hb d_Mo_scalar_6 (by decide) ?_
    refine lv_icmp_ne (tgt := 25) hx hb d_Mo_scalar_8 (by decide) (fun c1 => absurd ((pek_eq (k := 110) (by omega) (by decide) (by decide)).mpr hk) c1) (fun c1 => ?_)
    refine lv_aload_n hx hb d_Mo_scalar_11 rfl (lv_at hl 1 rfl) ?_
    refine lv_iconst (v := 0) hx hb d_Mo_scalar_12 (by decide) ?_
    refine lv_bipush (v := 110) hx hb d_Mo_scalar_13 (by decide) ?_
    refine lv_bipush (v := 117) hx hb d_Mo_scalar_15 (by decide) ?_
    refine lv_bipush (v := 108) hx hb d_Mo_scalar_17 (by decide) ?_
    refine lv_bipush (v := 108) hx hb d_Mo_scalar_19 (by decide) ?_
    refine W.eq (g2 := F0 m 21 ls [.int (nI 108), .int (nI 108), .int (nI 117), .int (nI 110), .int (nI 0), .ref a]) rfl ?_
    refine gh_callV C V hl.1 m_Mo_word l_Mo_220 (c_Mo_word4 l E _ _ a ad _ _ _ tx n pl 110 117 108 108 0 X.1 hT h21 hp (by decide) (by decide)) rfl X.1.1 gc_Mo ⟨by first | decide | omega | (dsimp only; omega), by first | decide | omega | (dsimp only; omega)⟩ ⟨by first | decide | omega | (dsimp only; omega), by first | decide | omega | (dsimp only; omega)⟩ (Nat.le_of_ble_eq_true rfl) rfl d_Mo_scalar_21 (fun r z9 H locs hp9 V1 => ?_)
    obtain ⟨rfl, S2, X2, g21, g28, gS⟩ := hp9
    have X := X.then X2
    have V := V1
    refine W.eq (g2 := F0 m 24 ls [.int (gh_bi (rd_w tx n [110, 117, 108, 108] pl).2)]) rfl ?_
    refine gh_retz hAe C V hr (by first | rfl | exact gh_bi_nar _ | decide) hlocks d_Mo_scalar_24 (by first | decide | omega | (dsimp only; omega)) (by first | decide | omega | (dsimp only; omega)) ?_
    cases hw : rd_w tx n [110, 117, 108, 108] pl with
    | mk q9 b9 =>
      rw [hw] at g21 g28
      have hR : rd_c tx n true pl = (q9, if b9 = true then some (vt_0 0) else none) := by unfold rd_c; rw [if_pos hk, hw]; cases b9 <;> rfl
      rw [hR]
      refine ⟨by cases b9 <;> rfl, _, _, _, X, g21, ⟨fun _ => ⟨gS, rfl, rfl⟩, fun z => (by cases z)⟩⟩
  · refine lv_aload_n hx hb d_Mo_scalar_0 rfl (lv_at hl 0 rfl) ?_
    refine gh_callV C V hl.1 m_Mo_peek l_Mo_185 (c_Mo_pk l E _ _ a ad _ _ _ tx n pl X.1 hT h21 (by omega)) rfl X.1.1 gc_Mo ⟨by first | decide | omega | (dsimp only; omega), by first | decide | omega | (dsimp only; omega)⟩ ⟨by first | decide | omega | (dsimp only; omega), by first | decide | omega | (dsimp only; omega)⟩ (Nat.le_of_ble_eq_true rfl) rfl d_Mo_scalar_1 (fun r z9 H locs hp9 V1 => ?_)
    obtain ⟨rfl, he9⟩ := hp9
    rw [he9] at V1
    have V := V1
    refine W.eq (g2 := F0 m 4 ls [.int (pek (sg tx n pl))]) rfl ?_
    refine lv_istore_n hx hb d_Mo_scalar_4 rfl hl (by decide) rfl (fun ls hl => ?_)
    have hl : lv_has ls 2 [(1, .int (pek (sg tx n pl))), (0, .ref a)] := hl
    refine lv_iload_n hx hb d_Mo_scalar_5 rfl (lv_at hl 0 rfl) ?_
    refine lv_bipush (v := 110) hx hb d_Mo_scalar_6 (by decide) ?_
    refine lv_icmp_ne (tgt := 25) hx hb d_Mo_scalar_8 (by decide) (fun c2 => ?_) (fun c2 => absurd c2 (fun z => absurd ((pek_eq (k := 110) (by omega) (by decide) (by decide)).mp z) (by omega)))
    refine lv_iload_n hx hb d_Mo_scalar_25 rfl (lv_at hl 0 rfl) ?_
    refine lv_bipush (v := 116) hx hb d_Mo_scalar_26 (by decide) ?_
    refine lv_icmp_ne (tgt := 45) hx hb d_Mo_scalar_28 (by decide) (fun c3 => ?_) (fun c3 => absurd c3 (fun z => absurd ((pek_eq (k := 116) (by omega) (by decide) (by decide)).mp z) (by omega)))
    refine lv_iload_n hx hb d_Mo_scalar_45 rfl (lv_at hl 0 rfl) ?_
    refine lv_bipush (v := 102) hx hb d_Mo_scalar_46 (by decide) ?_
    refine lv_icmp_ne (tgt := 65) hx hb d_Mo_scalar_48 (by decide) (fun c4 => absurd ((pek_eq (k := 102) (by omega) (by decide) (by decide)).mpr hk) c4) (fun c4 => ?_)
    refine lv_aload_n hx hb d_Mo_scalar_51 rfl (lv_at hl 1 rfl) ?_
    refine lv_iconst (v := 1) hx hb d_Mo_scalar_52 (by decide) ?_
    refine lv_bipush (v := 102) hx hb d_Mo_scalar_53 (by decide) ?_
    refine lv_bipush (v := 97) hx hb d_Mo_scalar_55 (by decide) ?_
    refine lv_bipush (v := 108) hx hb d_Mo_scalar_57 (by decide) ?_
    refine lv_bipush (v := 115) hx hb d_Mo_scalar_59 (by decide) ?_
    refine W.eq (g2 := F0 m 61 ls [.int (nI 115), .int (nI 108), .int (nI 97), .int (nI 102), .int (1), .ref a]) rfl ?_
    refine gh_callV C V hl.1 m_Mo_word l_Mo_220 (c_Mo_word5 l E _ _ a ad _ _ _ tx n pl 102 97 108 115 X.1 hT h21 hp (by decide)) rfl X.1.1 gc_Mo ⟨by first | decide | omega | (dsimp only; omega), by first | decide | omega | (dsimp only; omega)⟩ ⟨by first | decide | omega | (dsimp only; omega), by first | decide | omega | (dsimp only; omega)⟩ (Nat.le_of_ble_eq_true rfl) rfl d_Mo_scalar_61 (fun r z9 H locs hp9 V1 => ?_)
    obtain ⟨rfl, S2, X2, g21, g28, gS⟩ := hp9
    have X := X.then X2
    have V := V1
    refine W.eq (g2 := F0 m 64 ls [.int (gh_bi (rd_w tx n [102, 97, 108, 115, 101] pl).2)]) rfl ?_
    refine gh_retz hAe C V hr (by first | rfl | exact gh_bi_nar _ | decide) hlocks d_Mo_scalar_64 (by first | decide | omega | (dsimp only; omega)) (by first | decide | omega | (dsimp only; omega)) ?_
    cases hw : rd_w tx n [102, 97, 108, 115, 101] pl with
    | mk q9 b9 =>
      rw [hw] at g21 g28
      have hR : rd_c tx n true pl = (q9, if b9 = true then some (vt_0 1) else none) := by unfold rd_c; rw [if_neg (by omega), if_pos hk, hw]; cases b9 <;> rfl
      rw [hR]
      refine ⟨by cases b9 <;> rfl, _, _, _, X, g21, ⟨fun _ => ⟨gS, rfl, rfl⟩, fun z => (by cases z)⟩⟩
  · refine lv_aload_n hx hb d_Mo_scalar_0 rfl (lv_at hl 0 rfl) ?_
    refine gh_callV C V hl.1 m_Mo_peek l_Mo_185 (c_Mo_pk l E _ _ a ad _ _ _ tx n pl X.1 hT h21 (by omega)) rfl X.1.1 gc_Mo ⟨by first | decide | omega | (dsimp only; omega), by first | decide | omega | (dsimp only; omega)⟩ ⟨by first | decide | omega | (dsimp only; omega), by first | decide | omega | (dsimp only; omega)⟩ (Nat.le_of_ble_eq_true rfl) rfl d_Mo_scalar_1 (fun r z9 H locs hp9 V1 => ?_)
    obtain ⟨rfl, he9⟩ := hp9
    rw [he9] at V1
    have V := V1
    refine W.eq (g2 := F0 m 4 ls [.int (pek (sg tx n pl))]) rfl ?_
    refine lv_istore_n hx hb d_Mo_scalar_4 rfl hl (by decide) rfl (fun ls hl => ?_)
    have hl : lv_has ls 2 [(1, .int (pek (sg tx n pl))), (0, .ref a)] := hl
    refine lv_iload_n hx hb d_Mo_scalar_5 rfl (lv_at hl 0 rfl) ?_
    refine lv_bipush (v := 110) hx hb d_Mo_scalar_6 (by decide) ?_
    refine lv_icmp_ne (tgt := 25) hx hb d_Mo_scalar_8 (by decide) (fun c5 => ?_) (fun c5 => absurd c5 (fun z => absurd ((pek_eq (k := 110) (by omega) (by decide) (by decide)).mp z) (by omega)))
    refine lv_iload_n hx hb d_Mo_scalar_25 rfl (lv_at hl 0 rfl) ?_
    refine lv_bipush (v := 116) hx hb d_Mo_scalar_26 (by decide) ?_
    refine lv_icmp_ne (tgt := 45) hx hb d_Mo_scalar_28 (by decide) (fun c6 => absurd ((pek_eq (k := 116) (by omega) (by decide) (by decide)).mpr hk) c6) (fun c6 => ?_)
    refine lv_aload_n hx hb d_Mo_scalar_31 rfl (lv_at hl 1 rfl) ?_
    refine lv_iconst (v := 2) hx hb d_Mo_scalar_32 (by decide) ?_
    refine lv_bipush (v := 116) hx hb d_Mo_scalar_33 (by decide) ?_
    refine lv_bipush (v := 114) hx hb d_Mo_scalar_35 (by decide) ?_
    refine lv_bipush (v := 117) hx hb d_Mo_scalar_37 (by decide) ?_
    refine lv_bipush (v := 101) hx hb d_Mo_scalar_39 (by decide) ?_
    refine W.eq (g2 := F0 m 41 ls [.int (nI 101), .int (nI 117), .int (nI 114), .int (nI 116), .int (nI 2), .ref a]) rfl ?_
    refine gh_callV C V hl.1 m_Mo_word l_Mo_220 (c_Mo_word4 l E _ _ a ad _ _ _ tx n pl 116 114 117 101 2 X.1 hT h21 hp (by decide) (by decide)) rfl X.1.1 gc_Mo ⟨by first | decide | omega | (dsimp only; omega), by first | decide | omega | (dsimp only; omega)⟩ ⟨by first | decide | omega | (dsimp only; omega), by first | decide | omega | (dsimp only; omega)⟩ (Nat.le_of_ble_eq_true rfl) rfl d_Mo_scalar_41 (fun r z9 H locs hp9 V1 => ?_)
    obtain ⟨rfl, S2, X2, g21, g28, gS⟩ := hp9
    have X := X.then X2
    have V := V1
    refine W.eq (g2 := F0 m 44 ls [.int (gh_bi (rd_w tx n [116, 114, 117, 101] pl).2)]) rfl ?_
    refine gh_retz hAe C V hr (by first | rfl | exact gh_bi_nar _ | decide) hlocks d_Mo_scalar_44 (by first | decide | omega | (dsimp only; omega)) (by first | decide | omega | (dsimp only; omega)) ?_
    cases hw : rd_w tx n [116, 114, 117, 101] pl with
    | mk q9 b9 =>
      rw [hw] at g21 g28
      have hR : rd_c tx n true pl = (q9, if b9 = true then some (vt_0 2) else none) := by unfold rd_c; rw [if_neg (by omega), if_neg (by omega), if_pos hk, hw]; cases b9 <;> rfl
      rw [hR]
      refine ⟨by cases b9 <;> rfl, _, _, _, X, g21, ⟨fun _ => ⟨gS, rfl, rfl⟩, fun z => (by cases z)⟩⟩
  · refine lv_aload_n hx hb d_Mo_scalar_0 rfl (lv_at hl 0 rfl) ?_
    refine gh_callV C V hl.1 m_Mo_peek l_Mo_185 (c_Mo_pk l E _ _ a ad _ _ _ tx n pl X.1 hT h21 (by omega)) rfl X.1.1 gc_Mo ⟨by first | decide | omega | (dsimp only; omega), by first | decide | omega | (dsimp only; omega)⟩ ⟨by first | decide | omega | (dsimp only; omega), by first | decide | omega | (dsimp only; omega)⟩ (Nat.le_of_ble_eq_true rfl) rfl d_Mo_scalar_1 (fun r z9 H locs hp9 V1 => ?_)
    obtain ⟨rfl, he9⟩ := hp9
    rw [he9] at V1
    have V := V1
    refine W.eq (g2 := F0 m 4 ls [.int (pek (sg tx n pl))]) rfl ?_
    refine lv_istore_n hx hb d_Mo_scalar_4 rfl hl (by decide) rfl (fun ls hl => ?_)
    have hl : lv_has ls 2 [(1, .int (pek (sg tx n pl))), (0, .ref a)] := hl
    refine lv_iload_n hx hb d_Mo_scalar_5 rfl (lv_at hl 0 rfl) ?_
    refine lv_bipush (v := 110) hx hb d_Mo_scalar_6 (by decide) ?_
    refine lv_icmp_ne (tgt := 25) hx hb d_Mo_scalar_8 (by decide) (fun c7 => ?_) (fun c7 => absurd c7 (fun z => absurd ((pek_eq (k := 110) (by omega) (by decide) (by decide)).mp z) (by omega)))
    refine lv_iload_n hx hb d_Mo_scalar_25 rfl (lv_at hl 0 rfl) ?_
    refine lv_bipush (v := 116) hx hb d_Mo_scalar_26 (by decide) ?_
    refine lv_icmp_ne (tgt := 45) hx hb d_Mo_scalar_28 (by decide) (fun c8 => ?_) (fun c8 => absurd c8 (fun z => absurd ((pek_eq (k := 116) (by omega) (by decide) (by decide)).mp z) (by omega)))
    refine lv_iload_n hx hb d_Mo_scalar_45 rfl (lv_at hl 0 rfl) ?_
    refine lv_bipush (v := 102) hx hb d_Mo_scalar_46 (by decide) ?_
    refine lv_icmp_ne (tgt := 65) hx hb d_Mo_scalar_48 (by decide) (fun c9 => ?_) (fun c9 => absurd c9 (fun z => absurd ((pek_eq (k := 102) (by omega) (by decide) (by decide)).mp z) (by omega)))
    refine lv_iload_n hx hb d_Mo_scalar_65 rfl (lv_at hl 0 rfl) ?_
    refine lv_bipush (v := 34) hx hb d_Mo_scalar_66 (by decide) ?_
    refine lv_icmp_ne (tgt := 78) hx hb d_Mo_scalar_68 (by decide) (fun c10 => absurd ((pek_eq (k := 34) (by omega) (by decide) (by decide)).mpr hk) c10) (fun c10 => ?_)
    refine lv_aload_n hx hb d_Mo_scalar_71 rfl (lv_at hl 1 rfl) ?_
    refine gh_callV C V hl.1 m_Mo_letters l_Mo_217 (c_Mo_lettersF l E _ _ a ad _ _ _ tx n pl nv np X.1 hT h21 hp hk h27) rfl X.1.1 gc_Mo ⟨by first | decide | omega | (dsimp only; omega), by first | decide | omega | (dsimp only; omega)⟩ ⟨by first | decide | omega | (dsimp only; omega), by first | decide | omega | (dsimp only; omega)⟩ (Nat.le_of_ble_eq_true rfl) rfl d_Mo_scalar_72 (fun r z9 H locs hp9 V1 => ?_)
    obtain ⟨rfl, S2, I2, J2, X2, g21, gO⟩ := hp9
    have X := X.then X2
    have V := V1
    refine W.eq (g2 := F0 m 75 ls [.int (gh_bi (rd_s tx n n (pl + 1) []).2.isSome)]) rfl ?_
    refine lv_goto (tgt := 82) hx hb d_Mo_scalar_75 (by decide) ?_
    refine gh_retz hAe C V hr (by first | rfl | exact gh_bi_nar _ | decide) hlocks d_Mo_scalar_82 (by first | decide | omega | (dsimp only; omega)) (by first | decide | omega | (dsimp only; omega)) ?_
    cases hw : rd_s tx n n (pl + 1) [] with
    | mk q9 o9 =>
      rw [hw] at g21 gO
      have hR : rd_c tx n true pl = (q9, o9.map vt_t) := by unfold rd_c; rw [if_neg (by omega), if_neg (by omega), if_neg (by omega), if_pos hk, hw]; cases o9 <;> rfl
      rw [hR]
      exact ⟨by cases o9 <;> rfl, _, _, _, X, g21, gO⟩
  · refine lv_aload_n hx hb d_Mo_scalar_0 rfl (lv_at hl 0 rfl) ?_
    refine gh_callV C V hl.1 m_Mo_peek l_Mo_185 (c_Mo_pk l E _ _ a ad _ _ _ tx n pl X.1 hT h21 (by omega)) rfl X.1.1 gc_Mo ⟨by first | decide | omega | (dsimp only; omega), by first | decide | omega | (dsimp only; omega)⟩ ⟨by first | decide | omega | (dsimp only; omega), by first | decide | omega | (dsimp only; omega)⟩ (Nat.le_of_ble_eq_true rfl) rfl d_Mo_scalar_1 (fun r z9 H locs hp9 V1 => ?_)
    obtain ⟨rfl, he9⟩ := hp9
    rw [he9] at V1
    have V := V1
    refine W.eq (g2 := F0 m 4 ls [.int (pek (sg tx n pl))]) rfl ?_
    refine lv_istore_n hx hb d_Mo_scalar_4 rfl hl (by decide) rfl (fun ls hl => ?_)
    have hl : lv_has ls 2 [(1, .int (pek (sg tx n pl))), (0, .ref a)] := hl
    refine lv_iload_n hx hb d_Mo_scalar_5 rfl (lv_at hl 0 rfl) ?_
    refine lv_bipush (v := 110) hx hb d_Mo_scalar_6 (by decide) ?_
    refine lv_icmp_ne (tgt := 25) hx hb d_Mo_scalar_8 (by decide) (fun c11 => ?_) (fun c11 => absurd c11 (fun z => absurd ((pek_eq (k := 110) (by omega) (by decide) (by decide)).mp z) (by omega)))
    refine lv_iload_n hx hb d_Mo_scalar_25 rfl (lv_at hl 0 rfl) ?_
    refine lv_bipush (v := 116) hx hb d_Mo_scalar_26 (by decide) ?_
    refine lv_icmp_ne (tgt := 45) hx hb d_Mo_scalar_28 (by decide) (fun c12 => ?_) (fun c12 => absurd c12 (fun z => absurd ((pek_eq (k := 116) (by omega) (by decide) (by decide)).mp z) (by omega)))
    refine lv_iload_n hx hb d_Mo_scalar_45 rfl (lv_at hl 0 rfl) ?_
    refine lv_bipush (v := 102) hx hb d_Mo_scalar_46 (by decide) ?_
    refine lv_icmp_ne (tgt := 65) hx hb d_Mo_scalar_48 (by decide) (fun c13 => ?_) (fun c13 => absurd c13 (fun z => absurd ((pek_eq (k := 102) (by omega) (by decide) (by decide)).mp z) (by omega)))
    refine lv_iload_n hx hb d_Mo_scalar_65 rfl (lv_at hl 0 rfl) ?_
    refine lv_bipush (v := 34) hx hb d_Mo_scalar_66 (by decide) ?_
    refine lv_icmp_ne (tgt := 78) hx hb d_Mo_scalar_68 (by decide) (fun c14 => ?_) (fun c14 => absurd c14 (fun z => absurd ((pek_eq (k := 34) (by omega) (by decide) (by decide)).mp z) (by omega)))
    refine lv_aload_n hx hb d_Mo_scalar_78 rfl (lv_at hl 1 rfl) ?_
    refine gh_callV C V hl.1 m_Mo_isInteger l_Mo_224 (c_Mo_isIntegerF l E _ _ a ad _ _ _ tx n pl nv np X.1 hT h21 hp h27) rfl X.1.1 gc_Mo ⟨by first | decide | omega | (dsimp only; omega), by first | decide | omega | (dsimp only; omega)⟩ ⟨by first | decide | omega | (dsimp only; omega), by first | decide | omega | (dsimp only; omega)⟩ (Nat.le_of_ble_eq_true rfl) rfl d_Mo_scalar_79 (fun r z9 H locs hp9 V1 => ?_)
    obtain ⟨rfl, S2, I2, J2, X2, g21, gO⟩ := hp9
    have X := X.then X2
    have V := V1
    refine W.eq (g2 := F0 m 82 ls [.int (gh_bi (rd_i tx n true pl).2.isSome)]) rfl ?_
    refine gh_retz hAe C V hr (by first | rfl | exact gh_bi_nar _ | decide) hlocks d_Mo_scalar_82 (by first | decide | omega | (dsimp only; omega)) (by first | decide | omega | (dsimp only; omega)) ?_
    cases hw : rd_i tx n true pl with
    | mk q9 o9 =>
      rw [hw] at g21 gO
      have hR : rd_c tx n true pl = (q9, o9.map vt_i) := by unfold rd_c; rw [if_neg hk.1, if_neg hk.2.1, if_neg hk.2.2.1, if_neg hk.2.2.2, hw]; cases o9 <;> rfl
      rw [hR]
      exact ⟨by cases o9 <;> rfl, _, _, _, X, g21, gO⟩
set_option maxHeartbeats 4000000 in
set_option maxRecDepth 100000 in
theorem c_Mo_scalarT (l : Launch) (E : gh_E) (sz : Nat) (f : gh_F) (a : Nat) (ad : Nat → Nat) (S : Nat → Int32) (I : Nat → Nat → Int32) (J : Nat → Nat → Int64) (tx : Nat → Nat) (n pl : Nat) (nv np : Nat) (hX : mo_R E f a ad S I J) (hT : rT tx n S I) (h21 : S 21 = nI pl) (hp : pl ≤ n) (h27 : S 27 = 1) (h11 : S 11 = nI nv) (hnv : nv < 760) (h29 : 29 ≤ nv) (hc : mc I J 29 nv 0 np) : gh_M l y_Mo_scalar b_Mo_scalar 2 (some .boolean) E sz [.ref a] f { frames := 10, cells := 0, slots := 0, locals := 240 } (fun r g => r = some (.int (gh_bi (rd_c tx n true pl).2.isSome)) ∧ ∃ S2 I2 J2, mo_X E f g a ad S2 I2 J2 ∧ S2 21 = nI (rd_c tx n true pl).1 ∧ rO true S I J nv np (rd_c tx n true pl).2 S2 I2 J2) := by
  have hsg := (hT.ch pl).1
  have hS21 := h21
  refine gh_open (by decide) (Nat.le_of_ble_eq_true rfl) ?_
  intro p e s m args below meth c A ls hAe C V hr hlocks hname hl
  have hx := C.1
  have hb := C.2.1
  have hl : lv_has ls 2 [(0, .ref a)] := hl
  have X : mo_X E f f a ad S I J := ⟨hX, gh_fr.rf⟩
  rcases (show sg tx n pl = 110 ∨ sg tx n pl = 102 ∨ sg tx n pl = 116 ∨ sg tx n pl = 34 ∨ (sg tx n pl ≠ 110 ∧ sg tx n pl ≠ 102 ∧ sg tx n pl ≠ 116 ∧ sg tx n pl ≠ 34) by omega) with hk | hk | hk | hk | hk
  · refine lv_aload_n hx hb d_Mo_scalar_0 rfl (lv_at hl 0 rfl) ?_
    refine gh_callV C V hl.1 m_Mo_peek l_Mo_185 (c_Mo_pk l E _ _ a ad _ _ _ tx n pl X.1 hT h21 (by omega)) rfl X.1.1 gc_Mo ⟨by first | decide | omega | (dsimp only; omega), by first | decide | omega | (dsimp only; omega)⟩ ⟨by first | decide | omega | (dsimp only; omega), by first | decide | omega | (dsimp only; omega)⟩ (Nat.le_of_ble_eq_true rfl) rfl d_Mo_scalar_1 (fun r z9 H locs hp9 V1 => ?_)
    obtain ⟨rfl, he9⟩ := hp9
    rw [he9] at V1
    have V := V1
    refine W.eq (g2 := F0 m 4 ls [.int (pek (sg tx n pl))]) rfl ?_
    refine lv_istore_n hx hb d_Mo_scalar_4 rfl hl (by decide) rfl (fun ls hl => ?_)
    have hl : lv_has ls 2 [(1, .int (pek (sg tx n pl))), (0, .ref a)] := hl
    refine lv_iload_n hx hb d_Mo_scalar_5 rfl (lv_at hl 0 rfl) ?_
    refine lv_bipush (v := 110) hx hb d_Mo_scalar_6 (by decide) ?_
    refine lv_icmp_ne (tgt := 25) hx hb d_Mo_scalar_8 (by decide) (fun c1 => absurd ((pek_eq (k := 110) (by omega) (by decide) (by decide)).mpr hk) c1) (fun c1 => ?_)
    refine lv_aload_n hx hb d_Mo_scalar_11 rfl (lv_at hl 1 rfl) ?_
    refine lv_iconst (v := 0) hx hb d_Mo_scalar_12 (by decide) ?_
    refine lv_bipush (v := 110) hx hb d_Mo_scalar_13 (by decide) ?_
    refine lv_bipush (v := 117) hx hb d_Mo_scalar_15 (by decide) ?_
    refine lv_bipush (v := 108) hx hb d_Mo_scalar_17 (by decide) ?_
    refine lv_bipush (v := 108) hx hb d_Mo_scalar_19 (by decide) ?_
    refine W.eq (g2 := F0 m 21 ls [.int (nI 108), .int (nI 108), .int (nI 117), .int (nI 110), .int (nI 0), .ref a]) rfl ?_
    refine gh_callV C V hl.1 m_Mo_word l_Mo_220 (c_Mo_word4 l E _ _ a ad _ _ _ tx n pl 110 117 108 108 0 X.1 hT h21 hp (by decide) (by decide)) rfl X.1.1 gc_Mo ⟨by first | decide | omega | (dsimp only; omega), by first | decide | omega | (dsimp only; omega)⟩ ⟨by first | decide | omega | (dsimp only; omega), by first | decide | omega | (dsimp only; omega)⟩ (Nat.le_of_ble_eq_true rfl) rfl d_Mo_scalar_21 (fun r z9 H locs hp9 V1 => ?_)
    obtain ⟨rfl, S2, X2, g21, g28, gS⟩ := hp9
    have X := X.then X2
    have V := V1
    refine W.eq (g2 := F0 m 24 ls [.int (gh_bi (rd_w tx n [110, 117, 108, 108] pl).2)]) rfl ?_
    refine gh_retz hAe C V hr (by first | rfl | exact gh_bi_nar _ | decide) hlocks d_Mo_scalar_24 (by first | decide | omega | (dsimp only; omega)) (by first | decide | omega | (dsimp only; omega)) ?_
    cases hw : rd_w tx n [110, 117, 108, 108] pl with
    | mk q9 b9 =>
      rw [hw] at g21 g28
      have hR : rd_c tx n true pl = (q9, if b9 = true then some (vt_0 0) else none) := by unfold rd_c; rw [if_pos hk, hw]; cases b9 <;> rfl
      rw [hR]
      refine ⟨by cases b9 <;> rfl, _, _, _, X, g21, ⟨fun z => (by cases z), fun _ => fun X9 hz => ?_⟩⟩
      cases b9 with
      | false => cases hz
      | true =>
        have hz : vt_0 0 = X9 := by injection hz
        subst hz
        exact ⟨fun k9 a1 a2 a3 => gS k9 a2 a3, fun _ _ _ _ _ => rfl, ma.rf, nv, 0, ⟨Nat.le_refl _, Nat.le_succ _, fun _ _ _ _ => ⟨rfl, rfl⟩⟩, (gS 11 (by decide) (by decide)).trans h11, g28 rfl, hc.1⟩
  · refine lv_aload_n hx hb d_Mo_scalar_0 rfl (lv_at hl 0 rfl) ?_
    refine gh_callV C V hl.1 m_Mo_peek l_Mo_185 (c_Mo_pk l E _ _ a ad _ _ _ tx n pl X.1 hT h21 (by omega)) rfl X.1.1 gc_Mo ⟨by first | decide | omega | (dsimp only; omega), by first | decide | omega | (dsimp only; omega)⟩ ⟨by first | decide | omega | (dsimp only; omega), by first | decide | omega | (dsimp only; omega)⟩ (Nat.le_of_ble_eq_true rfl) rfl d_Mo_scalar_1 (fun r z9 H locs hp9 V1 => ?_)
    obtain ⟨rfl, he9⟩ := hp9
    rw [he9] at V1
    have V := V1
    refine W.eq (g2 := F0 m 4 ls [.int (pek (sg tx n pl))]) rfl ?_
    refine lv_istore_n hx hb d_Mo_scalar_4 rfl hl (by decide) rfl (fun ls hl => ?_)
    have hl : lv_has ls 2 [(1, .int (pek (sg tx n pl))), (0, .ref a)] := hl
    refine lv_iload_n hx hb d_Mo_scalar_5 rfl (lv_at hl 0 rfl) ?_
    refine lv_bipush (v := 110) hx hb d_Mo_scalar_6 (by decide) ?_
    refine lv_icmp_ne (tgt := 25) hx hb d_Mo_scalar_8 (by decide) (fun c2 => ?_) (fun c2 => absurd c2 (fun z => absurd ((pek_eq (k := 110) (by omega) (by decide) (by decide)).mp z) (by omega)))
    refine lv_iload_n hx hb d_Mo_scalar_25 rfl (lv_at hl 0 rfl) ?_
    refine lv_bipush (v := 116) hx hb d_Mo_scalar_26 (by decide) ?_
    refine lv_icmp_ne (tgt := 45) hx hb d_Mo_scalar_28 (by decide) (fun c3 => ?_) (fun c3 => absurd c3 (fun z => absurd ((pek_eq (k := 116) (by omega) (by decide) (by decide)).mp z) (by omega)))
    refine lv_iload_n hx hb d_Mo_scalar_45 rfl (lv_at hl 0 rfl) ?_
    refine lv_bipush (v := 102) hx hb d_Mo_scalar_46 (by decide) ?_
    refine lv_icmp_ne (tgt := 65) hx hb d_Mo_scalar_48 (by decide) (fun c4 => absurd ((pek_eq (k := 102) (by omega) (by decide) (by decide)).mpr hk) c4) (fun c4 => ?_)
    refine lv_aload_n hx hb d_Mo_scalar_51 rfl (lv_at hl 1 rfl) ?_
    refine lv_iconst (v := 1) hx hb d_Mo_scalar_52 (by decide) ?_
    refine lv_bipush (v := 102) hx hb d_Mo_scalar_53 (by decide) ?_
    refine lv_bipush (v := 97) hx hb d_Mo_scalar_55 (by decide) ?_
    refine lv_bipush (v := 108) hx hb d_Mo_scalar_57 (by decide) ?_
    refine lv_bipush (v := 115) hx hb d_Mo_scalar_59 (by decide) ?_
    refine W.eq (g2 := F0 m 61 ls [.int (nI 115), .int (nI 108), .int (nI 97), .int (nI 102), .int (1), .ref a]) rfl ?_
    refine gh_callV C V hl.1 m_Mo_word l_Mo_220 (c_Mo_word5 l E _ _ a ad _ _ _ tx n pl 102 97 108 115 X.1 hT h21 hp (by decide)) rfl X.1.1 gc_Mo ⟨by first | decide | omega | (dsimp only; omega), by first | decide | omega | (dsimp only; omega)⟩ ⟨by first | decide | omega | (dsimp only; omega), by first | decide | omega | (dsimp only; omega)⟩ (Nat.le_of_ble_eq_true rfl) rfl d_Mo_scalar_61 (fun r z9 H locs hp9 V1 => ?_)
    obtain ⟨rfl, S2, X2, g21, g28, gS⟩ := hp9
    have X := X.then X2
    have V := V1
    refine W.eq (g2 := F0 m 64 ls [.int (gh_bi (rd_w tx n [102, 97, 108, 115, 101] pl).2)]) rfl ?_
    refine gh_retz hAe C V hr (by first | rfl | exact gh_bi_nar _ | decide) hlocks d_Mo_scalar_64 (by first | decide | omega | (dsimp only; omega)) (by first | decide | omega | (dsimp only; omega)) ?_
    cases hw : rd_w tx n [102, 97, 108, 115, 101] pl with
    | mk q9 b9 =>
      rw [hw] at g21 g28
      have hR : rd_c tx n true pl = (q9, if b9 = true then some (vt_0 1) else none) := by unfold rd_c; rw [if_neg (by omega), if_pos hk, hw]; cases b9 <;> rfl
      rw [hR]
      refine ⟨by cases b9 <;> rfl, _, _, _, X, g21, ⟨fun z => (by cases z), fun _ => fun X9 hz => ?_⟩⟩
      cases b9 with
      | false => cases hz
      | true =>
        have hz : vt_0 1 = X9 := by injection hz
        subst hz
        exact ⟨fun k9 a1 a2 a3 => gS k9 a2 a3, fun _ _ _ _ _ => rfl, ma.rf, nv, 1, ⟨Nat.le_refl _, Nat.le_succ _, fun _ _ _ _ => ⟨rfl, rfl⟩⟩, (gS 11 (by decide) (by decide)).trans h11, g28 rfl, hc.2.1⟩
  · refine lv_aload_n hx hb d_Mo_scalar_0 rfl (lv_at hl 0 rfl) ?_
    refine gh_callV C V hl.1 m_Mo_peek l_Mo_185 (c_Mo_pk l E _ _ a ad _ _ _ tx n pl X.1 hT h21 (by omega)) rfl X.1.1 gc_Mo ⟨by first | decide | omega | (dsimp only; omega), by first | decide | omega | (dsimp only; omega)⟩ ⟨by first | decide | omega | (dsimp only; omega), by first | decide | omega | (dsimp only; omega)⟩ (Nat.le_of_ble_eq_true rfl) rfl d_Mo_scalar_1 (fun r z9 H locs hp9 V1 => ?_)
    obtain ⟨rfl, he9⟩ := hp9
    rw [he9] at V1
    have V := V1
    refine W.eq (g2 := F0 m 4 ls [.int (pek (sg tx n pl))]) rfl ?_
    refine lv_istore_n hx hb d_Mo_scalar_4 rfl hl (by decide) rfl (fun ls hl => ?_)
    have hl : lv_has ls 2 [(1, .int (pek (sg tx n pl))), (0, .ref a)] := hl
    refine lv_iload_n hx hb d_Mo_scalar_5 rfl (lv_at hl 0 rfl) ?_
    refine lv_bipush (v := 110) hx hb d_Mo_scalar_6 (by decide) ?_
    refine lv_icmp_ne (tgt := 25) hx hb d_Mo_scalar_8 (by decide) (fun c5 => ?_) (fun c5 => absurd c5 (fun z => absurd ((pek_eq (k := 110) (by omega) (by decide) (by decide)).mp z) (by omega)))
    refine lv_iload_n hx hb d_Mo_scalar_25 rfl (lv_at hl 0 rfl) ?_
    refine lv_bipush (v := 116) hx hb d_Mo_scalar_26 (by decide) ?_
    refine lv_icmp_ne (tgt := 45) hx hb d_Mo_scalar_28 (by decide) (fun c6 => absurd ((pek_eq (k := 116) (by omega) (by decide) (by decide)).mpr hk) c6) (fun c6 => ?_)
    refine lv_aload_n hx hb d_Mo_scalar_31 rfl (lv_at hl 1 rfl) ?_
    refine lv_iconst (v := 2) hx hb d_Mo_scalar_32 (by decide) ?_
    refine lv_bipush (v := 116) hx hb d_Mo_scalar_33 (by decide) ?_
    refine lv_bipush (v := 114) hx hb d_Mo_scalar_35 (by decide) ?_
    refine lv_bipush (v := 117) hx hb d_Mo_scalar_37 (by decide) ?_
    refine lv_bipush (v := 101) hx hb d_Mo_scalar_39 (by decide) ?_
    refine W.eq (g2 := F0 m 41 ls [.int (nI 101), .int (nI 117), .int (nI 114), .int (nI 116), .int (nI 2), .ref a]) rfl ?_
    refine gh_callV C V hl.1 m_Mo_word l_Mo_220 (c_Mo_word4 l E _ _ a ad _ _ _ tx n pl 116 114 117 101 2 X.1 hT h21 hp (by decide) (by decide)) rfl X.1.1 gc_Mo ⟨by first | decide | omega | (dsimp only; omega), by first | decide | omega | (dsimp only; omega)⟩ ⟨by first | decide | omega | (dsimp only; omega), by first | decide | omega | (dsimp only; omega)⟩ (Nat.le_of_ble_eq_true rfl) rfl d_Mo_scalar_41 (fun r z9 H locs hp9 V1 => ?_)
    obtain ⟨rfl, S2, X2, g21, g28, gS⟩ := hp9
    have X := X.then X2
    have V := V1
    refine W.eq (g2 := F0 m 44 ls [.int (gh_bi (rd_w tx n [116, 114, 117, 101] pl).2)]) rfl ?_
    refine gh_retz hAe C V hr (by first | rfl | exact gh_bi_nar _ | decide) hlocks d_Mo_scalar_44 (by first | decide | omega | (dsimp only; omega)) (by first | decide | omega | (dsimp only; omega)) ?_
    cases hw : rd_w tx n [116, 114, 117, 101] pl with
    | mk q9 b9 =>
      rw [hw] at g21 g28
      have hR : rd_c tx n true pl = (q9, if b9 = true then some (vt_0 2) else none) := by unfold rd_c; rw [if_neg (by omega), if_neg (by omega), if_pos hk, hw]; cases b9 <;> rfl
      rw [hR]
      refine ⟨by cases b9 <;> rfl, _, _, _, X, g21, ⟨fun z => (by cases z), fun _ => fun X9 hz => ?_⟩⟩
      cases b9 with
      | false => cases hz
      | true =>
        have hz : vt_0 2 = X9 := by injection hz
        subst hz
        exact ⟨fun k9 a1 a2 a3 => gS k9 a2 a3, fun _ _ _ _ _ => rfl, ma.rf, nv, 2, ⟨Nat.le_refl _, Nat.le_succ _, fun _ _ _ _ => ⟨rfl, rfl⟩⟩, (gS 11 (by decide) (by decide)).trans h11, g28 rfl, hc.2.2.1⟩
  · refine lv_aload_n hx hb d_Mo_scalar_0 rfl (lv_at hl 0 rfl) ?_
    refine gh_callV C V hl.1 m_Mo_peek l_Mo_185 (c_Mo_pk l E _ _ a ad _ _ _ tx n pl X.1 hT h21 (by omega)) rfl X.1.1 gc_Mo ⟨by first | decide | omega | (dsimp only; omega), by first | decide | omega | (dsimp only; omega)⟩ ⟨by first | decide | omega | (dsimp only; omega), by first | decide | omega | (dsimp only; omega)⟩ (Nat.le_of_ble_eq_true rfl) rfl d_Mo_scalar_1 (fun r z9 H locs hp9 V1 => ?_)
    obtain ⟨rfl, he9⟩ := hp9
    rw [he9] at V1
    have V := V1
    refine W.eq (g2 := F0 m 4 ls [.int (pek (sg tx n pl))]) rfl ?_
    refine lv_istore_n hx hb d_Mo_scalar_4 rfl hl (by decide) rfl (fun ls hl => ?_)
    have hl : lv_has ls 2 [(1, .int (pek (sg tx n pl))), (0, .ref a)] := hl
    refine lv_iload_n hx hb d_Mo_scalar_5 rfl (lv_at hl 0 rfl) ?_
    refine lv_bipush (v := 110) hx hb d_Mo_scalar_6 (by decide) ?_
    refine lv_icmp_ne (tgt := 25) hx hb d_Mo_scalar_8 (by decide) (fun c7 => ?_) (fun c7 => absurd c7 (fun z => absurd ((pek_eq (k := 110) (by omega) (by decide) (by decide)).mp z) (by omega)))
    refine lv_iload_n hx hb d_Mo_scalar_25 rfl (lv_at hl 0 rfl) ?_
    refine lv_bipush (v := 116) hx hb d_Mo_scalar_26 (by decide) ?_
    refine lv_icmp_ne (tgt := 45) hx hb d_Mo_scalar_28 (by decide) (fun c8 => ?_) (fun c8 => absurd c8 (fun z => absurd ((pek_eq (k := 116) (by omega) (by decide) (by decide)).mp z) (by omega)))
    refine lv_iload_n hx hb d_Mo_scalar_45 rfl (lv_at hl 0 rfl) ?_
    refine lv_bipush (v := 102) hx hb d_Mo_scalar_46 (by decide) ?_
    refine lv_icmp_ne (tgt := 65) hx hb d_Mo_scalar_48 (by decide) (fun c9 => ?_) (fun c9 => absurd c9 (fun z => absurd ((pek_eq (k := 102) (by omega) (by decide) (by decide)).mp z) (by omega)))
    refine lv_iload_n hx hb d_Mo_scalar_65 rfl (lv_at hl 0 rfl) ?_
    refine lv_bipush (v := 34) hx hb d_Mo_scalar_66 (by decide) ?_
    refine lv_icmp_ne (tgt := 78) hx hb d_Mo_scalar_68 (by decide) (fun c10 => absurd ((pek_eq (k := 34) (by omega) (by decide) (by decide)).mpr hk) c10) (fun c10 => ?_)
    refine lv_aload_n hx hb d_Mo_scalar_71 rfl (lv_at hl 1 rfl) ?_
    refine gh_callV C V hl.1 m_Mo_letters l_Mo_217 (c_Mo_lettersT l E _ _ a ad _ _ _ tx n pl nv np X.1 hT h21 hp hk h27 h11 hnv h29) rfl X.1.1 gc_Mo ⟨by first | decide | omega | (dsimp only; omega), by first | decide | omega | (dsimp only; omega)⟩ ⟨by first | decide | omega | (dsimp only; omega), by first | decide | omega | (dsimp only; omega)⟩ (Nat.le_of_ble_eq_true rfl) rfl d_Mo_scalar_72 (fun r z9 H locs hp9 V1 => ?_)
    obtain ⟨rfl, S2, I2, J2, X2, g21, gO⟩ := hp9
    have X := X.then X2
    have V := V1
    refine W.eq (g2 := F0 m 75 ls [.int (gh_bi (rd_s tx n n (pl + 1) []).2.isSome)]) rfl ?_
    refine lv_goto (tgt := 82) hx hb d_Mo_scalar_75 (by decide) ?_
    refine gh_retz hAe C V hr (by first | rfl | exact gh_bi_nar _ | decide) hlocks d_Mo_scalar_82 (by first | decide | omega | (dsimp only; omega)) (by first | decide | omega | (dsimp only; omega)) ?_
    cases hw : rd_s tx n n (pl + 1) [] with
    | mk q9 o9 =>
      rw [hw] at g21 gO
      have hR : rd_c tx n true pl = (q9, o9.map vt_t) := by unfold rd_c; rw [if_neg (by omega), if_neg (by omega), if_neg (by omega), if_pos hk, hw]; cases o9 <;> rfl
      rw [hR]
      exact ⟨by cases o9 <;> rfl, _, _, _, X, g21, gO⟩
  · refine lv_aload_n hx hb d_Mo_scalar_0 rfl (lv_at hl 0 rfl) ?_
    refine gh_callV C V hl.1 m_Mo_peek l_Mo_185 (c_Mo_pk l E _ _ a ad _ _ _ tx n pl X.1 hT h21 (by omega)) rfl X.1.1 gc_Mo ⟨by first | decide | omega | (dsimp only; omega), by first | decide | omega | (dsimp only; omega)⟩ ⟨by first | decide | omega | (dsimp only; omega), by first | decide | omega | (dsimp only; omega)⟩ (Nat.le_of_ble_eq_true rfl) rfl d_Mo_scalar_1 (fun r z9 H locs hp9 V1 => ?_)
    obtain ⟨rfl, he9⟩ := hp9
    rw [he9] at V1
    have V := V1
    refine W.eq (g2 := F0 m 4 ls [.int (pek (sg tx n pl))]) rfl ?_
    refine lv_istore_n hx hb d_Mo_scalar_4 rfl hl (by decide) rfl (fun ls hl => ?_)
    have hl : lv_has ls 2 [(1, .int (pek (sg tx n pl))), (0, .ref a)] := hl
    refine lv_iload_n hx hb d_Mo_scalar_5 rfl (lv_at hl 0 rfl) ?_
    refine lv_bipush (v := 110) hx hb d_Mo_scalar_6 (by decide) ?_
    refine lv_icmp_ne (tgt := 25) hx hb d_Mo_scalar_8 (by decide) (fun c11 => ?_) (fun c11 => absurd c11 (fun z => absurd ((pek_eq (k := 110) (by omega) (by decide) (by decide)).mp z) (by omega)))
    refine lv_iload_n hx hb d_Mo_scalar_25 rfl (lv_at hl 0 rfl) ?_
    refine lv_bipush (v := 116) hx hb d_Mo_scalar_26 (by decide) ?_
    refine lv_icmp_ne (tgt := 45) hx hb d_Mo_scalar_28 (by decide) (fun c12 => ?_) (fun c12 => absurd c12 (fun z => absurd ((pek_eq (k := 116) (by omega) (by decide) (by decide)).mp z) (by omega)))
    refine lv_iload_n hx hb d_Mo_scalar_45 rfl (lv_at hl 0 rfl) ?_
    refine lv_bipush (v := 102) hx hb d_Mo_scalar_46 (by decide) ?_
    refine lv_icmp_ne (tgt := 65) hx hb d_Mo_scalar_48 (by decide) (fun c13 => ?_) (fun c13 => absurd c13 (fun z => absurd ((pek_eq (k := 102) (by omega) (by decide) (by decide)).mp z) (by omega)))
    refine lv_iload_n hx hb d_Mo_scalar_65 rfl (lv_at hl 0 rfl) ?_
    refine lv_bipush (v := 34) hx hb d_Mo_scalar_66 (by decide) ?_
    refine lv_icmp_ne (tgt := 78) hx hb d_Mo_scalar_68 (by decide) (fun c14 => ?_) (fun c14 => absurd c14 (fun z => absurd ((pek_eq (k := 34) (by omega) (by decide) (by decide)).mp z) (by omega)))
    refine lv_aload_n hx hb d_Mo_scalar_78 rfl (lv_at hl 1 rfl) ?_
    refine gh_callV C V hl.1 m_Mo_isInteger l_Mo_224 (c_Mo_isIntegerT l E _ _ a ad _ _ _ tx n pl nv np X.1 hT h21 hp h27 h11 hnv h29) rfl X.1.1 gc_Mo ⟨by first | decide | omega | (dsimp only; omega), by first | decide | omega | (dsimp only; omega)⟩ ⟨by first | decide | omega | (dsimp only; omega), by first | decide | omega | (dsimp only; omega)⟩ (Nat.le_of_ble_eq_true rfl) rfl d_Mo_scalar_79 (fun r z9 H locs hp9 V1 => ?_)
    obtain ⟨rfl, S2, I2, J2, X2, g21, gO⟩ := hp9
    have X := X.then X2
    have V := V1
    refine W.eq (g2 := F0 m 82 ls [.int (gh_bi (rd_i tx n true pl).2.isSome)]) rfl ?_
    refine gh_retz hAe C V hr (by first | rfl | exact gh_bi_nar _ | decide) hlocks d_Mo_scalar_82 (by first | decide | omega | (dsimp only; omega)) (by first | decide | omega | (dsimp only; omega)) ?_
    cases hw : rd_i tx n true pl with
    | mk q9 o9 =>
      rw [hw] at g21 gO
      have hR : rd_c tx n true pl = (q9, o9.map vt_i) := by unfold rd_c; rw [if_neg hk.1, if_neg hk.2.1, if_neg hk.2.2.1, if_neg hk.2.2.2, hw]; cases o9 <;> rfl
      rw [hR]
      exact ⟨by cases o9 <;> rfl, _, _, _, X, g21, gO⟩
theorem d_Mo_enterOpen_0 : decode b_Mo_enterOpen 0 = .ok (.aload_n 0, 1) := by decide +kernel
theorem d_Mo_enterOpen_1 : decode b_Mo_enterOpen 1 = .ok (.getfield 63, 3) := by decide +kernel
theorem d_Mo_enterOpen_4 : decode b_Mo_enterOpen 4 = .ok (.iload_n 1, 1) := by decide +kernel
theorem d_Mo_enterOpen_5 : decode b_Mo_enterOpen 5 = .ok (.iaload, 1) := by decide +kernel
theorem d_Mo_enterOpen_6 : decode b_Mo_enterOpen 6 = .ok (.istore_n 2, 1) := by decide +kernel
theorem d_Mo_enterOpen_7 : decode b_Mo_enterOpen 7 = .ok (.aload_n 0, 1) := by decide +kernel
theorem d_Mo_enterOpen_8 : decode b_Mo_enterOpen 8 = .ok (.getfield 57, 3) := by decide +kernel
theorem d_Mo_enterOpen_11 : decode b_Mo_enterOpen 11 = .ok (.bipush 16, 2) := by decide +kernel
theorem d_Mo_enterOpen_13 : decode b_Mo_enterOpen 13 = .ok (.iload_n 1, 1) := by decide +kernel
theorem d_Mo_enterOpen_14 : decode b_Mo_enterOpen 14 = .ok (.imul, 1) := by decide +kernel
theorem d_Mo_enterOpen_15 : decode b_Mo_enterOpen 15 = .ok (.iload_n 2, 1) := by decide +kernel
theorem d_Mo_enterOpen_16 : decode b_Mo_enterOpen 16 = .ok (.iadd, 1) := by decide +kernel
theorem d_Mo_enterOpen_17 : decode b_Mo_enterOpen 17 = .ok (.aload_n 0, 1) := by decide +kernel
theorem d_Mo_enterOpen_18 : decode b_Mo_enterOpen 18 = .ok (.getfield 189, 3) := by decide +kernel
theorem d_Mo_enterOpen_21 : decode b_Mo_enterOpen 21 = .ok (.iastore, 1) := by decide +kernel
theorem d_Mo_enterOpen_22 : decode b_Mo_enterOpen 22 = .ok (.aload_n 0, 1) := by decide +kernel
theorem d_Mo_enterOpen_23 : decode b_Mo_enterOpen 23 = .ok (.getfield 63, 3) := by decide +kernel
theorem d_Mo_enterOpen_26 : decode b_Mo_enterOpen 26 = .ok (.iload_n 1, 1) := by decide +kernel
theorem d_Mo_enterOpen_27 : decode b_Mo_enterOpen 27 = .ok (.iload_n 2, 1) := by decide +kernel
theorem d_Mo_enterOpen_28 : decode b_Mo_enterOpen 28 = .ok (.iconst 1, 1) := by decide +kernel
theorem d_Mo_enterOpen_29 : decode b_Mo_enterOpen 29 = .ok (.iadd, 1) := by decide +kernel
theorem d_Mo_enterOpen_30 : decode b_Mo_enterOpen 30 = .ok (.iastore, 1) := by decide +kernel
theorem d_Mo_enterOpen_31 : decode b_Mo_enterOpen 31 = .ok (.return_, 1) := by decide +kernel
set_option maxHeartbeats 4000000 in
set_option maxRecDepth 100000 in
theorem c_Mo_enterOpen (l : Launch) (E : gh_E) (sz : Nat) (f : gh_F) (a : Nat) (ad : Nat → Nat) (S : Nat → Int32) (I : Nat → Nat → Int32) (J : Nat → Nat → Int64) (dp cn : Nat) (hX : mo_R E f a ad S I J) (hdp : dp < 8) (hcn : cn < 16) (h24 : I 24 dp = nI cn) : gh_M l y_Mo_enterOpen b_Mo_enterOpen 3 none E sz [.ref a, .int (nI dp)] f { frames := 3, cells := 0, slots := 0, locals := 60 } (fun r g => r = none ∧ mo_X E f g a ad S (va_up (va_up I 22 (upd (I 22) (16 * dp + cn) (S 28))) 24 (upd (I 24) dp (nI (cn + 1)))) J) := by
  refine gh_open (by decide) (Nat.le_of_ble_eq_true rfl) ?_
  intro p e s m args below meth c A ls hAe C V hr hlocks hname hl
  have hx := C.1
  have hb := C.2.1
  have hl : lv_has ls 3 [(0, .ref a), (1, .int (nI dp))] := hl
  have X : mo_X E f f a ad S I J := ⟨hX, gh_fr.rf⟩
  refine lv_aload_n hx hb d_Mo_enterOpen_0 rfl (lv_at hl 0 rfl) ?_
  refine mo_getA C V X 24 (by decide) (by decide) f_Mo_63 rfl d_Mo_enterOpen_1 ?_
  refine lv_iload_n hx hb d_Mo_enterOpen_4 rfl (lv_at hl 1 rfl) ?_
  refine mo_ild (k := 24) (i := dp) (n := 8) C V X (by decide) (by decide) rfl (by omega) (by decide) d_Mo_enterOpen_5 ?_
  rw [show I 24 dp = nI cn from h24]
  refine lv_istore_n hx hb d_Mo_enterOpen_6 rfl hl (by decide) rfl (fun ls hl => ?_)
  have hl : lv_has ls 3 [(2, .int (nI cn)), (0, .ref a), (1, .int (nI dp))] := hl
  refine lv_aload_n hx hb d_Mo_enterOpen_7 rfl (lv_at hl 1 rfl) ?_
  refine mo_getA C V X 22 (by decide) (by decide) f_Mo_57 rfl d_Mo_enterOpen_8 ?_
  refine lv_bipush (v := 16) hx hb d_Mo_enterOpen_11 (by decide) ?_
  refine lv_iload_n hx hb d_Mo_enterOpen_13 rfl (lv_at hl 2 rfl) ?_
  refine gn_imul (a := 16) (b := dp) hx hb d_Mo_enterOpen_14 ?_
  refine lv_iload_n hx hb d_Mo_enterOpen_15 rfl (lv_at hl 0 rfl) ?_
  refine gn_iadd (a := 16 * dp) (b := cn) hx hb d_Mo_enterOpen_16 ?_
  refine lv_aload_n hx hb d_Mo_enterOpen_17 rfl (lv_at hl 1 rfl) ?_
  refine mo_getS (v := S 28) C V X 28 (by decide) (by decide) (by first | rfl | exact hS28) f_Mo_189 rfl d_Mo_enterOpen_18 ?_
  refine mo_ist (k := 22) (i := (16 * dp) + cn) (n := 128) C V X (by decide) (by decide) rfl (by omega) (by decide) d_Mo_enterOpen_21 (fun f1 H locs V1 X1 => ?_)
  clear V X
  have V := V1
  have X := X1
  clear V1 X1
  refine lv_aload_n hx hb d_Mo_enterOpen_22 rfl (lv_at hl 1 rfl) ?_
  refine mo_getA C V X 24 (by decide) (by decide) f_Mo_63 rfl d_Mo_enterOpen_23 ?_
  refine lv_iload_n hx hb d_Mo_enterOpen_26 rfl (lv_at hl 2 rfl) ?_
  refine lv_iload_n hx hb d_Mo_enterOpen_27 rfl (lv_at hl 0 rfl) ?_
  refine lv_iconst (v := 1) hx hb d_Mo_enterOpen_28 (by decide) ?_
  refine gn_iadd (a := cn) (b := 1) hx hb d_Mo_enterOpen_29 ?_
  refine mo_ist (k := 24) (i := dp) (n := 8) C V X (by decide) (by decide) rfl (by omega) (by decide) d_Mo_enterOpen_30 (fun f1 H locs V1 X1 => ?_)
  clear V X
  have V := V1
  have X := X1
  clear V1 X1
  refine gh_retv hAe C V hr hlocks d_Mo_enterOpen_31 (by first | decide | omega | (dsimp only; omega)) (by first | decide | omega | (dsimp only; omega)) ?_
  exact ⟨rfl, by first | exact X | (rw [va_up_n (by decide)] at X; exact X)⟩
