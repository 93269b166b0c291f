/-! document of the model. Printed by wip/whole/gen_mo41.py. -/
/-- what document leaves -/
def dcm (S : Nat → Int32) (I : mo_I) (J : mo_J) (R : Nat × Option vt) (S2 : Nat → Int32) (I2 : mo_I) (J2 : mo_J) : Prop := S2 20 = 0 ∧ (R.2 = none → S2 18 = nI R.1 ∧ S2 0 = 1 ∧ (∀ k, k ≠ 0 → k ≠ 16 → k ≠ 18 → k ≠ 20 → k ≠ 21 → k ≠ 27 → k ≠ 28 → S2 k = S k) ∧ (∀ k, (k < 22 ∨ 26 < k) → I2 k = I k) ∧ J2 = J) ∧ ∀ X, R.2 = some X → S2 18 = -1 ∧ S2 0 = 0 ∧ (∀ k, k ≠ 0 → k ≠ 11 → k ≠ 12 → k ≠ 16 → k ≠ 17 → k ≠ 18 → k ≠ 20 → k ≠ 21 → k ≠ 27 → k ≠ 28 → S2 k = S k) ∧ (∀ k, (k < 22 ∨ 26 < k) → k ≠ 1 → k ≠ 3 → k ≠ 4 → k ≠ 5 → k ≠ 9 → k ≠ 10 → k ≠ 14 → k ≠ 15 → I2 k = I k) ∧ (∀ k v, (k = 1 ∨ k = 3 ∨ k = 4 ∨ k = 5 ∨ k = 9) → v < 29 ∨ 260 ≤ v → v < 760 → I2 k v = I k v) ∧ (∀ k v, (k = 2 ∨ k = 6 ∨ k = 7 ∨ k = 8) → v < 29 ∨ 260 ≤ v → v < 760 → J2 k v = J k v) ∧ (∀ q, 300 ≤ q → I2 10 q = I 10 q) ∧ ∃ nv np u, nv ≤ 150 ∧ np ≤ 240 ∧ S2 17 = nI u ∧ mw I2 J2 29 nv 0 np u X ∧ mc I2 J2 29 nv 0 np
theorem d_Mo_document_0 : decode b_Mo_document 0 = .ok (.aload_n 0, 1) := by decide +kernel
theorem d_Mo_document_1 : decode b_Mo_document 1 = .ok (.iconst 0, 1) := by decide +kernel
theorem d_Mo_document_2 : decode b_Mo_document 2 = .ok (.invokevirtual 255, 3) := by decide +kernel
theorem d_Mo_document_5 : decode b_Mo_document 5 = .ok (.istore_n 1, 1) := by decide +kernel
theorem d_Mo_document_6 : decode b_Mo_document 6 = .ok (.aload_n 0, 1) := by decide +kernel
theorem d_Mo_document_7 : decode b_Mo_document 7 = .ok (.iload_n 1, 1) := by decide +kernel
theorem d_Mo_document_8 : decode b_Mo_document 8 = .ok (.ifCond .eq 7, 3) := by decide +kernel
theorem d_Mo_document_11 : decode b_Mo_document 11 = .ok (.iconst (-1), 1) := by decide +kernel
theorem d_Mo_document_12 : decode b_Mo_document 12 = .ok (.goto 7, 3) := by decide +kernel
theorem d_Mo_document_15 : decode b_Mo_document 15 = .ok (.aload_n 0, 1) := by decide +kernel
theorem d_Mo_document_16 : decode b_Mo_document 16 = .ok (.getfield 179, 3) := by decide +kernel
theorem d_Mo_document_19 : decode b_Mo_document 19 = .ok (.putfield 50, 3) := by decide +kernel
theorem d_Mo_document_22 : decode b_Mo_document 22 = .ok (.iload_n 1, 1) := by decide +kernel
theorem d_Mo_document_23 : decode b_Mo_document 23 = .ok (.ifCond .eq 28, 3) := by decide +kernel
theorem d_Mo_document_26 : decode b_Mo_document 26 = .ok (.aload_n 0, 1) := by decide +kernel
theorem d_Mo_document_27 : decode b_Mo_document 27 = .ok (.bipush 29, 2) := by decide +kernel
theorem d_Mo_document_29 : decode b_Mo_document 29 = .ok (.putfield 141, 3) := by decide +kernel
theorem d_Mo_document_32 : decode b_Mo_document 32 = .ok (.aload_n 0, 1) := by decide +kernel
theorem d_Mo_document_33 : decode b_Mo_document 33 = .ok (.iconst 0, 1) := by decide +kernel
theorem d_Mo_document_34 : decode b_Mo_document 34 = .ok (.putfield 163, 3) := by decide +kernel
theorem d_Mo_document_37 : decode b_Mo_document 37 = .ok (.aload_n 0, 1) := by decide +kernel
theorem d_Mo_document_38 : decode b_Mo_document 38 = .ok (.iconst 1, 1) := by decide +kernel
theorem d_Mo_document_39 : decode b_Mo_document 39 = .ok (.invokevirtual 255, 3) := by decide +kernel
theorem d_Mo_document_42 : decode b_Mo_document 42 = .ok (.pop, 1) := by decide +kernel
theorem d_Mo_document_43 : decode b_Mo_document 43 = .ok (.aload_n 0, 1) := by decide +kernel
theorem d_Mo_document_44 : decode b_Mo_document 44 = .ok (.aload_n 0, 1) := by decide +kernel
theorem d_Mo_document_45 : decode b_Mo_document 45 = .ok (.getfield 189, 3) := by decide +kernel
theorem d_Mo_document_48 : decode b_Mo_document 48 = .ok (.putfield 259, 3) := by decide +kernel
theorem d_Mo_document_51 : decode b_Mo_document 51 = .ok (.aload_n 0, 1) := by decide +kernel
theorem d_Mo_document_52 : decode b_Mo_document 52 = .ok (.iconst 0, 1) := by decide +kernel
theorem d_Mo_document_53 : decode b_Mo_document 53 = .ok (.putfield 182, 3) := by decide +kernel
theorem d_Mo_document_56 : decode b_Mo_document 56 = .ok (.aload_n 0, 1) := by decide +kernel
theorem d_Mo_document_57 : decode b_Mo_document 57 = .ok (.iload_n 1, 1) := by decide +kernel
theorem d_Mo_document_58 : decode b_Mo_document 58 = .ok (.ifCond .ne 7, 3) := by decide +kernel
theorem d_Mo_document_61 : decode b_Mo_document 61 = .ok (.iconst 1, 1) := by decide +kernel
theorem d_Mo_document_62 : decode b_Mo_document 62 = .ok (.goto 4, 3) := by decide +kernel
theorem d_Mo_document_65 : decode b_Mo_document 65 = .ok (.iconst 0, 1) := by decide +kernel
theorem d_Mo_document_66 : decode b_Mo_document 66 = .ok (.iconst 0, 1) := by decide +kernel
theorem d_Mo_document_67 : decode b_Mo_document 67 = .ok (.invokevirtual 251, 3) := by decide +kernel
theorem d_Mo_document_70 : decode b_Mo_document 70 = .ok (.pop, 1) := by decide +kernel
theorem d_Mo_document_71 : decode b_Mo_document 71 = .ok (.return_, 1) := by decide +kernel
set_option maxHeartbeats 4000000 in
set_option maxRecDepth 100000 in
theorem c_Mo_document (l : Launch) (E : gh_E) (sz : Nat) (f : gh_F) (a : Nat) (ad : Nat → Nat) (S : Nat → Int32) (I : Nat → Nat → Int32) (J : Nat → Nat → Int64) (tx : Nat → Nat) (n nvd npd : Nat) (hX : mo_R E f a ad S I J) (hTT : rT tx n S I) (hc0 : mc I J 29 nvd 0 npd) : gh_M l y_Mo_document b_Mo_document 2 none E sz [.ref a] f { frames := 14, cells := 0, slots := 0, locals := 330 } (fun r g => r = none ∧ ∃ S2 I2 J2, mo_X E f g a ad S2 I2 J2 ∧ dcm S I J (rd_a tx n true) S2 I2 J2) := by
  refine gh_open (by decide) (Nat.le_of_ble_eq_true rfl) ?_
  intro p e s m args below meth c A ls hAe C V hr hlocks hname hl
  have hx := C.1
  have hb := C.2.1
  have hl : lv_has ls 2 [(0, .ref a)] := hl
  have X : mo_X E f f a ad S I J := ⟨hX, gh_fr.rf⟩
  refine lv_aload_n hx hb d_Mo_document_0 rfl (lv_at hl 0 rfl) ?_
  refine lv_iconst (v := 0) hx hb d_Mo_document_1 (by decide) ?_
  refine W.eq (g2 := F0 m 2 ls [.int (gh_bi false), .ref a]) rfl ?_
  refine gh_callV C V hl.1 m_Mo_isDocument l_Mo_255 (c_Mo_isDocument l E _ _ a ad _ _ _ tx n false X.1 hTT (fun z => by cases z)) rfl X.1.1 gc_Mo ⟨by first | decide | omega | (dsimp only; omega), by first | decide | omega | (dsimp only; omega)⟩ ⟨by first | decide | omega | (dsimp only; omega), by first | decide | omega | (dsimp only; omega)⟩ (Nat.le_of_ble_eq_true rfl) rfl d_Mo_document_2 (fun r z9 H locs hp9 V1 => ?_)
  obtain ⟨rfl, S3, I3, J3, X2, g21, gD⟩ := hp9
  have X := X.then X2
  have V := V1
  refine W.eq (g2 := F0 m 5 ls [.int (gh_bi (rd_a tx n true).2.isSome)]) rfl ?_
  cases hR : rd_a tx n true with
  | mk q9 o9 =>
    rw [hR] at g21 gD
    obtain ⟨nv, np, hv1, hv2, hv3, hE, -⟩ := gD
    cases o9 with
    | none =>
      refine W.eq (g2 := F0 m 5 ls [.int 0]) rfl ?_
      have hS21 : S3 21 = nI q9 := g21
      refine lv_istore_n hx hb d_Mo_document_5 rfl hl (by decide) rfl (fun ls hl => ?_)
      have hl : lv_has ls 2 [(1, .int 0), (0, .ref a)] := hl
      refine lv_aload_n hx hb d_Mo_document_6 rfl (lv_at hl 1 rfl) ?_
      refine lv_iload_n hx hb d_Mo_document_7 rfl (lv_at hl 0 rfl) ?_
      refine lv_if_eq (tgt := 15) hx hb d_Mo_document_8 (by decide) (fun c1 => ?_) (fun c1 => absurd (by decide) c1)
      refine lv_aload_n hx hb d_Mo_document_15 rfl (lv_at hl 1 rfl) ?_
      refine mo_getS (v := nI q9) C V X 21 (by decide) (by decide) (by first | rfl | exact hS21) f_Mo_179 rfl d_Mo_document_16 ?_
      refine mo_putS C V X 18 (by decide) (by decide) f_Mo_50 rfl rfl rfl d_Mo_document_19 (fun f1 H locs V1 X1 => ?_)
      clear V X
      have V := V1
      have X := X1
      clear V1 X1
      refine lv_iload_n hx hb d_Mo_document_22 rfl (lv_at hl 0 rfl) ?_
      refine lv_if_eq (tgt := 51) hx hb d_Mo_document_23 (by decide) (fun c2 => ?_) (fun c2 => absurd (by decide) c2)
      refine lv_aload_n hx hb d_Mo_document_51 rfl (lv_at hl 1 rfl) ?_
      refine lv_iconst (v := 0) hx hb d_Mo_document_52 (by decide) ?_
      refine mo_putS C V X 20 (by decide) (by decide) f_Mo_182 rfl rfl rfl d_Mo_document_53 (fun f1 H locs V1 X1 => ?_)
      clear V X
      have V := V1
      have X := X1
      clear V1 X1
      refine lv_aload_n hx hb d_Mo_document_56 rfl (lv_at hl 1 rfl) ?_
      refine lv_iload_n hx hb d_Mo_document_57 rfl (lv_at hl 0 rfl) ?_
      refine lv_if_ne (tgt := 65) hx hb d_Mo_document_58 (by decide) (fun c3 => absurd (by decide) c3) (fun c3 => ?_)
      refine lv_iconst (v := 1) hx hb d_Mo_document_61 (by decide) ?_
      refine lv_goto (tgt := 66) hx hb d_Mo_document_62 (by decide) ?_
      refine lv_iconst (v := 0) hx hb d_Mo_document_66 (by decide) ?_
      refine W.eq (g2 := F0 m 67 ls [.int (gh_bi false), .int (gh_bi true), .ref a]) rfl ?_
      refine gh_callV C V hl.1 m_Mo_throwing l_Mo_251 (c_Mo_throwing l E _ _ a ad _ _ _ true false X.1) rfl X.1.1 gc_Mo ⟨by first | decide | omega | (dsimp only; omega), by first | decide | omega | (dsimp only; omega)⟩ ⟨by first | decide | omega | (dsimp only; omega), by first | decide | omega | (dsimp only; omega)⟩ (Nat.le_of_ble_eq_true rfl) rfl d_Mo_document_67 (fun r z9 H locs hp V1 => ?_)
      obtain ⟨rfl, X2⟩ := hp
      have X := X.then X2
      have V := V1
      refine W.eq (g2 := F0 m 70 ls [.int (gh_bi true)]) rfl ?_
      refine lv_pop hx hb d_Mo_document_70 rfl ?_
      refine gh_retv hAe C V hr hlocks d_Mo_document_71 (by first | decide | omega | (dsimp only; omega)) (by first | decide | omega | (dsimp only; omega)) ?_
      refine ⟨rfl, _, _, _, X, ?_, fun _ => ⟨?_, ?_, fun k x0 x16 x18 x20 x21 x27 x28 => ?_, fun k hk => hE.2.1 k hk (fun z => by cases z), hE.2.2.1 rfl⟩, fun X hz => by cases hz⟩
      · rw [va_up_n (by decide), va_up_s]
      · rw [va_up_n (by decide), va_up_n (by decide), va_up_s]
      · rw [va_up_s]; rfl
      · rw [va_up_n x0, va_up_n x20, va_up_n x18, hE.1 k x16 x21 x28 (fun z => by cases z), va_up_n x21, va_up_n x27]
    | some X9 =>
      refine W.eq (g2 := F0 m 5 ls [.int 1]) rfl ?_
      refine lv_istore_n hx hb d_Mo_document_5 rfl hl (by decide) rfl (fun ls hl => ?_)
      have hl : lv_has ls 2 [(1, .int 1), (0, .ref a)] := hl
      refine lv_aload_n hx hb d_Mo_document_6 rfl (lv_at hl 1 rfl) ?_
      refine lv_iload_n hx hb d_Mo_document_7 rfl (lv_at hl 0 rfl) ?_
      refine lv_if_eq (tgt := 15) hx hb d_Mo_document_8 (by decide) (fun c4 => absurd c4 (by decide)) (fun c4 => ?_)
      refine lv_iconst (v := (-1)) hx hb d_Mo_document_11 (by decide) ?_
      refine lv_goto (tgt := 19) hx hb d_Mo_document_12 (by decide) ?_
      refine mo_putS C V X 18 (by decide) (by decide) f_Mo_50 rfl rfl rfl d_Mo_document_19 (fun f1 H locs V1 X1 => ?_)
      clear V X
      have V := V1
      have X := X1
      clear V1 X1
      refine lv_iload_n hx hb d_Mo_document_22 rfl (lv_at hl 0 rfl) ?_
      refine lv_if_eq (tgt := 51) hx hb d_Mo_document_23 (by decide) (fun c5 => absurd c5 (by decide)) (fun c5 => ?_)
      refine lv_aload_n hx hb d_Mo_document_26 rfl (lv_at hl 1 rfl) ?_
      refine lv_bipush (v := 29) hx hb d_Mo_document_27 (by decide) ?_
      refine mo_putS C V X 11 (by decide) (by decide) f_Mo_141 rfl rfl rfl d_Mo_document_29 (fun f1 H locs V1 X1 => ?_)
      clear V X
      have V := V1
      have X := X1
      clear V1 X1
      refine lv_aload_n hx hb d_Mo_document_32 rfl (lv_at hl 1 rfl) ?_
      refine lv_iconst (v := 0) hx hb d_Mo_document_33 (by decide) ?_
      refine mo_putS C V X 12 (by decide) (by decide) f_Mo_163 rfl rfl rfl d_Mo_document_34 (fun f1 H locs V1 X1 => ?_)
      clear V X
      have V := V1
      have X := X1
      clear V1 X1
      refine lv_aload_n hx hb d_Mo_document_37 rfl (lv_at hl 1 rfl) ?_
      refine lv_iconst (v := 1) hx hb d_Mo_document_38 (by decide) ?_
      refine W.eq (g2 := F0 m 39 ls [.int (gh_bi true), .ref a]) rfl ?_
      have hIk : ∀ k, (k < 22 ∨ 26 < k) → I3 k = I k := fun k hk => hE.2.1 k hk (fun z => by cases z)
      have hJk : J3 = J := hE.2.2.1 rfl
      have hTT2 : rT tx n (va_up (va_up (va_up S3 18 (-1)) 11 29) 12 0) I3 := hTT.keep (by rw [va_up_n (by decide), va_up_n (by decide), va_up_n (by decide), hE.1 20 (by decide) (by decide) (by decide) (fun z => by cases z), va_up_n (by decide), va_up_n (by decide)]) (hIk 19 (by decide))
      have hm3 : ma I J I3 J3 29 nvd 0 npd := ⟨fun k v hk _ => by rw [hIk k (by omega)], fun k v _ _ => by rw [hJk], fun q _ _ => by rw [hIk 10 (by decide)]⟩
      have hcI : mc I3 J3 29 29 0 0 := (mc.any (nv2 := 29) (np2 := 0) (b2 := 29) (pb2 := 0) hc0).keep (nv1 := 29) (np1 := 0) ⟨fun k v hk _ => by rw [hIk k (by omega)], fun k v _ _ => by rw [hJk], fun q _ _ => by rw [hIk 10 (by decide)]⟩ (Nat.le_refl _) (Nat.le_refl _) (by decide)
      refine gh_callV C V hl.1 m_Mo_isDocument l_Mo_255 (c_Mo_isDocument l E _ _ a ad _ _ _ tx n true X.1 hTT2 (fun _ => ⟨by rw [hR]; rfl, by rw [va_up_n (by decide), va_up_s]; rfl, by rw [va_up_s]; rfl, hcI⟩)) rfl X.1.1 gc_Mo ⟨by first | decide | omega | (dsimp only; omega), by first | decide | omega | (dsimp only; omega)⟩ ⟨by first | decide | omega | (dsimp only; omega), by first | decide | omega | (dsimp only; omega)⟩ (Nat.le_of_ble_eq_true rfl) rfl d_Mo_document_39 (fun r z9 H locs hp9 V1 => ?_)
      obtain ⟨rfl, S4, I4, J4, X2, k21, kD⟩ := hp9
      have X := X.then X2
      have V := V1
      refine W.eq (g2 := F0 m 42 ls [.int (gh_bi (rd_a tx n true).2.isSome)]) rfl ?_
      rw [hR] at k21 kD
      obtain ⟨nv4, np4, hw1, hw2, hw3, hE4, hD4⟩ := kD
      obtain ⟨hcc, hD4⟩ := hD4 rfl
      obtain ⟨u, hu1, hu2⟩ := hD4 X9 rfl
      have hS28 := hu1
      refine lv_pop hx hb d_Mo_document_42 rfl ?_
      refine lv_aload_n hx hb d_Mo_document_43 rfl (lv_at hl 1 rfl) ?_
      refine lv_aload_n hx hb d_Mo_document_44 rfl (lv_at hl 1 rfl) ?_
      refine mo_getS (v := nI u) C V X 28 (by decide) (by decide) (by first | rfl | exact hS28) f_Mo_189 rfl d_Mo_document_45 ?_
      refine mo_putS C V X 17 (by decide) (by decide) f_Mo_259 rfl rfl rfl d_Mo_document_48 (fun f1 H locs V1 X1 => ?_)
      clear V X
      have V := V1
      have X := X1
      clear V1 X1
      refine lv_aload_n hx hb d_Mo_document_51 rfl (lv_at hl 1 rfl) ?_
      refine lv_iconst (v := 0) hx hb d_Mo_document_52 (by decide) ?_
      refine mo_putS C V X 20 (by decide) (by decide) f_Mo_182 rfl rfl rfl d_Mo_document_53 (fun f1 H locs V1 X1 => ?_)
      clear V X
      have V := V1
      have X := X1
      clear V1 X1
      refine lv_aload_n hx hb d_Mo_document_56 rfl (lv_at hl 1 rfl) ?_
      refine lv_iload_n hx hb d_Mo_document_57 rfl (lv_at hl 0 rfl) ?_
      refine lv_if_ne (tgt := 65) hx hb d_Mo_document_58 (by decide) (fun c6 => ?_) (fun c6 => absurd c6 (by decide))
      refine lv_iconst (v := 0) hx hb d_Mo_document_65 (by decide) ?_
      refine lv_iconst (v := 0) hx hb d_Mo_document_66 (by decide) ?_
      obtain ⟨hm1, hm2, hm3, hm4, -, -⟩ := hE4.2.2.2.2.1 rfl
      refine W.eq (g2 := F0 m 67 ls [.int (gh_bi false), .int (gh_bi false), .ref a]) rfl ?_
      refine gh_callV C V hl.1 m_Mo_throwing l_Mo_251 (c_Mo_throwing l E _ _ a ad _ _ _ false false X.1) rfl X.1.1 gc_Mo ⟨by first | decide | omega | (dsimp only; omega), by first | decide | omega | (dsimp only; omega)⟩ ⟨by first | decide | omega | (dsimp only; omega), by first | decide | omega | (dsimp only; omega)⟩ (Nat.le_of_ble_eq_true rfl) rfl d_Mo_document_67 (fun r z9 H locs hp V1 => ?_)
      obtain ⟨rfl, X2⟩ := hp
      have X := X.then X2
      have V := V1
      refine W.eq (g2 := F0 m 70 ls [.int (gh_bi false)]) rfl ?_
      refine lv_pop hx hb d_Mo_document_70 rfl ?_
      refine gh_retv hAe C V hr hlocks d_Mo_document_71 (by first | decide | omega | (dsimp only; omega)) (by first | decide | omega | (dsimp only; omega)) ?_
      refine ⟨rfl, _, _, _, X, ?_, fun hz => (by cases hz), fun Y hz => ?_⟩
      · rw [va_up_n (by decide), va_up_s]
      have hz : X9 = Y := by injection hz
      rw [← hz]
      refine ⟨?_, ?_, fun k x0 x11 x12 x16 x17 x18 x20 x21 x27 x28 => ?_, fun k hk y1 y3 y4 y5 y9 y10 y14 y15 => ?_, fun k v hk hv h7 => ?_, fun k v hk hv h7 => ?_, fun q hq => ?_, nv4, np4, u, hw2, hw3, ?_, hu2, hcc⟩
      · rw [va_up_n (by decide), va_up_n (by decide), va_up_n (by decide), hE4.1 18 (by decide) (by decide) (by decide) (fun _ => by decide), va_up_n (by decide), va_up_n (by decide), va_up_n (by decide), va_up_n (by decide), va_up_s]
      · rw [va_up_s]; rfl
      · rw [va_up_n x0, va_up_n x20, va_up_n x17, hE4.1 k x16 x21 x28 (fun _ => ⟨x11, x12⟩), va_up_n x21, va_up_n x27, va_up_n x12, va_up_n x11, va_up_n x18, hE.1 k x16 x21 x28 (fun z => by cases z), va_up_n x21, va_up_n x27]
      · rw [hE4.2.1 k hk (fun _ => ⟨y1, y3, y4, y5, y9, y10, y14, y15⟩), hIk k hk]
      · rcases hv with hv | hv
        · rw [hm1.1 k v hk ⟨Or.inl hv, by omega⟩, hIk k (by omega)]
        · rw [hm2 k v hk hv, hIk k (by omega)]
      · rcases hv with hv | hv
        · rw [hm1.2.1 k v hk ⟨Or.inl hv, by omega⟩, hJk]
        · rw [hm3 k v hk hv, hJk]
      · rw [hm4 q hq, hIk 10 (by decide)]
      · rw [va_up_n (by decide), va_up_n (by decide), va_up_s]
