/-! System.arraycopy of letters; sums. Printed by wip/whole/gen_vs5.py. -/
theorem ac_nat : Cond.native arraycopyName ∈ g_tbl := g_in 768 (by decide +kernel) (by decide +kernel)
theorem ac_sta : Cond.static arraycopyName ∈ g_tbl := g_in 767 (by decide +kernel) (by decide +kernel)
theorem ac_ini : Cond.initialized "java/lang/System" ∈ g_tbl := g_in 21 (by decide +kernel) (by decide +kernel)
theorem ac_link : Cond.methodLink R_Vs 104 arraycopyName ∈ g_tbl := g_in 766 (by decide +kernel) (by decide +kernel)
section CPY
variable {p : Program} {l : Launch} {e : Env} {R : Room} {s : State} {m : MethodId} {args : Array Value} {below : List Frame} {meth : Method} {c : Code} {H : Heap} {locs : List Loc} {cells slots : Nat} {Q : State → Prop}
variable {cc : ByteArray} {pc : Nat} {ls : Array Slot} {rest : List Value} {E : gh_E} {A : Nat → Prop} {f : gh_F} {own : String} {nL : Nat}
theorem gh_copyc (C : gh_C E A p s m args c cc own nL) (V : gh_V E A f s H locs) (hls : ls.size = nL) {index : Nat} (hlink : Cond.methodLink own index arraycopyName ∈ g_tbl) {a0 a n0 n1 sp dp n : Nat} {f0 g : Nat → Int32} (he0 : f a0 = some (.inl (E.2.2.1 2, n0, .inl f0))) (he1 : f a = some (.inl (E.2.2.1 2, n1, .inl g))) (h4 : sp + n ≤ n0) (h5 : dp + n ≤ n1) (hn0 : n0 < 2 ^ 31) (hn1 : n1 < 2 ^ 31) (hfit : ∀ i, i < n → fits .char (.int (f0 (sp + i))) = true) (hfr : 1 ≤ R.frames) (hlo : (rest.map fun v => v.category).sum + (nativeFrameWords "java/lang/System" "arraycopy" 5 + 11) ≤ R.locals) (hdg : decode cc pc = .ok (.invokestatic index, 3))
    (kk : ∀ (H1 : Heap) (locs1 : List Loc), gh_V E A (gh_u f a (.inl (E.2.2.1 2, n1, .inl (va_cpy f0 g sp dp n)))) s H1 locs1 → W p l e R s m args below meth c H1 locs1 cells slots Q (F0 m (pc + 3) ls rest)) : W p l e R s m args below meth c H locs cells slots Q (F0 m pc ls (.int (nI n) :: .int (nI dp) :: .ref a :: .int (nI sp) :: .ref a0 :: rest)) := by
  obtain ⟨j0, hj0⟩ := gh_l_get (V.1.lt he0) he0
  obtain ⟨j1, hj1⟩ := gh_l_get (V.1.lt he1) he1
  have q1 : (nI sp).toNatClampNeg = sp := nI_clamp (by omega)
  have q2 : (nI dp).toNatClampNeg = dp := nI_clamp (by omega)
  have q3 : (nI n).toNatClampNeg = n := nI_clamp (by omega)
  refine va_copyi C.1 C.2.1 (C.2.2.1.trans hls.symm) C.2.2.2.1 (C.2.2.2.2.1 _ hlink) (C.2.2.2.2.1 _ ac_nat) (C.2.2.2.2.1 _ ac_sta) (C.2.2.2.2.1 _ ac_ini) C.2.2.2.2.2.1 V.1.P V.1.D V.2 j0 j1 2 2 (ty := .char) hj0 hj1 rfl rfl rfl (nI_pos (by omega)) (nI_pos (by omega)) (nI_pos (by omega)) (by rw [q1, q3]; exact h4) (by rw [q2, q3]; exact h5) (fun i hi => by rw [q1]; exact hfit i (by rw [q3] at hi; exact hi)) hfr hlo hdg (fun H1 locs1 hP _ hS => ?_)
  rw [q1, q2, q3] at hP
  exact kk H1 locs1 ⟨V.1.set rfl hj1 hP, hS⟩
end CPY
theorem lt_fit1 : ∀ c : Nat, c < 127 → fits .char (.int (nI c)) = true := by decide +kernel
theorem lt_fit {L : List Int32} (hL : lt_ok L) {i : Nat} (hi : i < L.length) : fits .char (.int (L.getD i 0)) = true := by
  obtain ⟨c, h1, h2, h3⟩ := hL.2 i hi
  rw [h3]
  exact lt_fit1 c (by omega)
theorem lt_joined {X Y : List Int32} {gX gY : Nat → Int32} (hX : ∀ j, j < X.length → gX j = X.getD j 0) (hY : ∀ j, j < Y.length → gY j = Y.getD j 0) : ∀ j, j < (X ++ Y).length → va_cpy gY (va_cpy gX (fun _ => 0) 0 0 X.length) 0 X.length Y.length j = (X ++ Y).getD j 0 := by
  intro j hj
  unfold va_cpy
  by_cases hjx : j < X.length
  · have : (X ++ Y).getD j 0 = X.getD j 0 := by simp [List.getD, List.getElem?_append_left hjx]
    rw [this, if_neg (by omega), if_pos (by omega), ← hX j hjx]
    congr 1
    omega
  · have hj2 : j - X.length < Y.length := by simp at hj; omega
    have : (X ++ Y).getD j 0 = Y.getD (j - X.length) 0 := by simp [List.getD, List.getElem?_append_right (Nat.le_of_not_lt hjx)]
    rw [this, if_pos (by omega), ← hY _ hj2]
    congr 1
    omega
theorem d_Vs_joinedStrings_0 : decode b_Vs_joinedStrings 0 = .ok (.aload_n 1, 1) := by decide +kernel
theorem d_Vs_joinedStrings_1 : decode b_Vs_joinedStrings 1 = .ok (.arraylength, 1) := by decide +kernel
theorem d_Vs_joinedStrings_2 : decode b_Vs_joinedStrings 2 = .ok (.aload_n 2, 1) := by decide +kernel
theorem d_Vs_joinedStrings_3 : decode b_Vs_joinedStrings 3 = .ok (.arraylength, 1) := by decide +kernel
theorem d_Vs_joinedStrings_4 : decode b_Vs_joinedStrings 4 = .ok (.iadd, 1) := by decide +kernel
theorem d_Vs_joinedStrings_5 : decode b_Vs_joinedStrings 5 = .ok (.bipush 24, 2) := by decide +kernel
theorem d_Vs_joinedStrings_7 : decode b_Vs_joinedStrings 7 = .ok (.if_icmp .le 5, 3) := by decide +kernel
theorem d_Vs_joinedStrings_10 : decode b_Vs_joinedStrings 10 = .ok (.aconst_null, 1) := by decide +kernel
theorem d_Vs_joinedStrings_11 : decode b_Vs_joinedStrings 11 = .ok (.areturn, 1) := by decide +kernel
theorem d_Vs_joinedStrings_12 : decode b_Vs_joinedStrings 12 = .ok (.aload_n 1, 1) := by decide +kernel
theorem d_Vs_joinedStrings_13 : decode b_Vs_joinedStrings 13 = .ok (.arraylength, 1) := by decide +kernel
theorem d_Vs_joinedStrings_14 : decode b_Vs_joinedStrings 14 = .ok (.aload_n 2, 1) := by decide +kernel
theorem d_Vs_joinedStrings_15 : decode b_Vs_joinedStrings 15 = .ok (.arraylength, 1) := by decide +kernel
theorem d_Vs_joinedStrings_16 : decode b_Vs_joinedStrings 16 = .ok (.iadd, 1) := by decide +kernel
theorem d_Vs_joinedStrings_17 : decode b_Vs_joinedStrings 17 = .ok (.newarray .char, 2) := by decide +kernel
theorem d_Vs_joinedStrings_19 : decode b_Vs_joinedStrings 19 = .ok (.astore_n 3, 1) := by decide +kernel
theorem d_Vs_joinedStrings_20 : decode b_Vs_joinedStrings 20 = .ok (.aload_n 1, 1) := by decide +kernel
theorem d_Vs_joinedStrings_21 : decode b_Vs_joinedStrings 21 = .ok (.iconst 0, 1) := by decide +kernel
theorem d_Vs_joinedStrings_22 : decode b_Vs_joinedStrings 22 = .ok (.aload_n 3, 1) := by decide +kernel
theorem d_Vs_joinedStrings_23 : decode b_Vs_joinedStrings 23 = .ok (.iconst 0, 1) := by decide +kernel
theorem d_Vs_joinedStrings_24 : decode b_Vs_joinedStrings 24 = .ok (.aload_n 1, 1) := by decide +kernel
theorem d_Vs_joinedStrings_25 : decode b_Vs_joinedStrings 25 = .ok (.arraylength, 1) := by decide +kernel
theorem d_Vs_joinedStrings_26 : decode b_Vs_joinedStrings 26 = .ok (.invokestatic 104, 3) := by decide +kernel
theorem d_Vs_joinedStrings_29 : decode b_Vs_joinedStrings 29 = .ok (.aload_n 2, 1) := by decide +kernel
theorem d_Vs_joinedStrings_30 : decode b_Vs_joinedStrings 30 = .ok (.iconst 0, 1) := by decide +kernel
theorem d_Vs_joinedStrings_31 : decode b_Vs_joinedStrings 31 = .ok (.aload_n 3, 1) := by decide +kernel
theorem d_Vs_joinedStrings_32 : decode b_Vs_joinedStrings 32 = .ok (.aload_n 1, 1) := by decide +kernel
theorem d_Vs_joinedStrings_33 : decode b_Vs_joinedStrings 33 = .ok (.arraylength, 1) := by decide +kernel
theorem d_Vs_joinedStrings_34 : decode b_Vs_joinedStrings 34 = .ok (.aload_n 2, 1) := by decide +kernel
theorem d_Vs_joinedStrings_35 : decode b_Vs_joinedStrings 35 = .ok (.arraylength, 1) := by decide +kernel
theorem d_Vs_joinedStrings_36 : decode b_Vs_joinedStrings 36 = .ok (.invokestatic 104, 3) := by decide +kernel
theorem d_Vs_joinedStrings_39 : decode b_Vs_joinedStrings 39 = .ok (.new 7, 3) := by decide +kernel
theorem d_Vs_joinedStrings_42 : decode b_Vs_joinedStrings 42 = .ok (.dup, 1) := by decide +kernel
theorem d_Vs_joinedStrings_43 : decode b_Vs_joinedStrings 43 = .ok (.iconst 4, 1) := by decide +kernel
theorem d_Vs_joinedStrings_44 : decode b_Vs_joinedStrings 44 = .ok (.lconst 0, 1) := by decide +kernel
theorem d_Vs_joinedStrings_45 : decode b_Vs_joinedStrings 45 = .ok (.aload_n 3, 1) := by decide +kernel
theorem d_Vs_joinedStrings_46 : decode b_Vs_joinedStrings 46 = .ok (.aload_n 0, 1) := by decide +kernel
theorem d_Vs_joinedStrings_47 : decode b_Vs_joinedStrings 47 = .ok (.getfield 9, 3) := by decide +kernel
theorem d_Vs_joinedStrings_50 : decode b_Vs_joinedStrings 50 = .ok (.aload_n 0, 1) := by decide +kernel
theorem d_Vs_joinedStrings_51 : decode b_Vs_joinedStrings 51 = .ok (.getfield 9, 3) := by decide +kernel
theorem d_Vs_joinedStrings_54 : decode b_Vs_joinedStrings 54 = .ok (.invokespecial 19, 3) := by decide +kernel
theorem d_Vs_joinedStrings_57 : decode b_Vs_joinedStrings 57 = .ok (.areturn, 1) := by decide +kernel
set_option maxHeartbeats 4000000 in
set_option maxRecDepth 100000 in
theorem c_Vs_joinedStrings (l : Launch) (E : gh_E) (sz : Nat) (f : gh_F) (P : Nat → Prop) (vs nu no ye ni al ga : Nat) (x y : Nat) (X Y : List Int32) (hV : vs_C E P f vs nu no ye ni al ga) (hP : ∀ q, f q = none → P q) (hX : lt_S E P f x X) (hY : lt_S E P f y Y) (hXk : lt_ok X) (hYk : lt_ok Y) : gh_M l y_Vs_joinedStrings b_Vs_joinedStrings 4 (some (.object "QueryMachine$Value")) E sz [.ref vs, .ref x, .ref y] f { frames := 2, cells := 2, slots := 31, locals := 100 } (fun r g => vr_A E P g (vt_js X Y) r ∧ gh_fr f g (fun b => b ∈ ([] : List Nat))) := by
  have hVc := hV
  obtain ⟨⟨pvs, pni, pal⟩, hvs, hnu, hno, hye, ⟨g0, hni⟩, g1, X1, hal, hX1⟩ := hVc
  obtain ⟨pX, gX, hX1, hX2⟩ := hX
  obtain ⟨pY, gY, hY1, hY2⟩ := hY
  have hX24 := hXk.1
  have hY24 := hYk.1
  refine gh_open (by decide) (Nat.le_of_ble_eq_true rfl) ?_
  intro p e s m args below meth c A ls hAe C V hr hlocks hname hl
  have hx := C.1
  have hb := C.2.1
  have hl : lv_has ls 4 [(0, .ref vs), (1, .ref x), (2, .ref y)] := hl
  have hfr : gh_fr f f (fun b => b ∈ ([] : List Nat)) := gh_fr.rf
  refine lv_aload_n hx hb d_Vs_joinedStrings_0 rfl (lv_at hl 1 rfl) ?_
  refine gh_alen (t0 := 2) C V rfl hX1 (v := nI X.length) rfl d_Vs_joinedStrings_1 ?_
  refine lv_aload_n hx hb d_Vs_joinedStrings_2 rfl (lv_at hl 2 rfl) ?_
  refine gh_alen (t0 := 2) C V rfl hY1 (v := nI Y.length) rfl d_Vs_joinedStrings_3 ?_
  refine gn_iadd (a := X.length) (b := Y.length) hx hb d_Vs_joinedStrings_4 ?_
  refine lv_bipush (v := 24) hx hb d_Vs_joinedStrings_5 (by decide) ?_
  refine lv_icmp_le (tgt := 12) hx hb d_Vs_joinedStrings_7 (by decide) (fun c1 => ?_) (fun c1 => ?_)
  · have c1 : (X.length + Y.length) ≤ 24 := by rw [← gq_le (a := X.length + Y.length) (b := 24) (by omega) (by omega)]; exact c1
    refine lv_aload_n hx hb d_Vs_joinedStrings_12 rfl (lv_at hl 1 rfl) ?_
    refine gh_alen (t0 := 2) C V rfl hX1 (v := nI X.length) rfl d_Vs_joinedStrings_13 ?_
    refine lv_aload_n hx hb d_Vs_joinedStrings_14 rfl (lv_at hl 2 rfl) ?_
    refine gh_alen (t0 := 2) C V rfl hY1 (v := nI Y.length) rfl d_Vs_joinedStrings_15 ?_
    refine gn_iadd (a := X.length) (b := Y.length) hx hb d_Vs_joinedStrings_16 ?_
    refine gh_newa (atype := .char) (ty := .char) (t0 := 2) (a0 := (X.length + Y.length, .inl (fun _ => 0))) (N := X.length + Y.length) C V rfl ac_char rfl (fun _ h => by cases h) (gh_a0i _ .char rfl) (nI_pos (by omega)) (nI_clamp (by omega)) (by rw [show componentBytes FieldType.char = 2 from rfl]; omega) (by first | decide | omega | (dsimp only; omega)) (by first | decide | omega | (dsimp only; omega)) d_Vs_joinedStrings_17 (fun q2 H hnq2 V => ?_)
    obtain ⟨f3, hff3⟩ : ∃ z9 : gh_F, z9 = gh_u f q2 (.inl (E.2.2.1 2, X.length + Y.length, .inl (fun _ => 0))) := ⟨_, rfl⟩
    have V : gh_V E A f3 s H [] := by rw [hff3]; exact V
    have nz_q2 : f q2 = none := hfr.non hnq2
    have hfr : gh_fr f f3 (fun b => b ∈ ([] : List Nat)) := by rw [hff3]; exact hfr.put (Or.inr nz_q2)
    have ne_vs_q2 : vs ≠ q2 := gh_ne0 hvs hnq2
    have h_vs_f3 : f3 vs = some (.inr (7, [.ref nu, .ref no, .ref ye, .ref ni, .ref al, .ref ga])) := by rw [hff3, gh_un ne_vs_q2]; exact hvs
    have ne_ni_q2 : ni ≠ q2 := gh_ne0 hni hnq2
    have h_ni_f3 : f3 ni = some (.inl (E.2.2.1 4, 0, .inr (.inr (.inr (.inr g0))))) := by rw [hff3, gh_un ne_ni_q2]; exact hni
    have ne_x_q2 : x ≠ q2 := gh_ne0 hX1 hnq2
    have h_x_f3 : f3 x = some (.inl (E.2.2.1 2, X.length, .inl gX)) := by rw [hff3, gh_un ne_x_q2]; exact hX1
    have ne_y_q2 : y ≠ q2 := gh_ne0 hY1 hnq2
    have h_y_f3 : f3 y = some (.inl (E.2.2.1 2, Y.length, .inl gY)) := by rw [hff3, gh_un ne_y_q2]; exact hY1
    have h_q2_f3 : f3 q2 = some (.inl (E.2.2.1 2, X.length + Y.length, .inl (fun _ => 0))) := by rw [hff3, gh_us]
    refine lv_astore_n hx hb d_Vs_joinedStrings_19 rfl hl (by decide) rfl (fun ls hl => ?_)
    have hl : lv_has ls 4 [(3, .ref q2), (0, .ref vs), (1, .ref x), (2, .ref y)] := hl
    refine lv_aload_n hx hb d_Vs_joinedStrings_20 rfl (lv_at hl 2 rfl) ?_
    refine lv_iconst (v := 0) hx hb d_Vs_joinedStrings_21 (by decide) ?_
    refine lv_aload_n hx hb d_Vs_joinedStrings_22 rfl (lv_at hl 0 rfl) ?_
    refine lv_iconst (v := 0) hx hb d_Vs_joinedStrings_23 (by decide) ?_
    refine lv_aload_n hx hb d_Vs_joinedStrings_24 rfl (lv_at hl 2 rfl) ?_
    refine gh_alen (t0 := 2) C V rfl h_x_f3 (v := nI X.length) rfl d_Vs_joinedStrings_25 ?_
    refine gh_copyc (sp := 0) (dp := 0) (n := X.length) C V hl.1 ac_link h_x_f3 h_q2_f3 (by omega) (by omega) (by omega) (by omega) (fun i hi => by rw [Nat.zero_add, hX2 i hi]; exact lt_fit hXk hi) (by first | decide | omega | (dsimp only; omega)) (by dsimp only; decide) d_Vs_joinedStrings_26 (fun H locs V => ?_)
    obtain ⟨f4, hff4⟩ : ∃ z9 : gh_F, z9 = gh_u f3 q2 (.inl (E.2.2.1 2, X.length + Y.length, .inl (va_cpy gX ((fun _ => 0)) 0 0 X.length))) := ⟨_, rfl⟩
    have V : gh_V E A f4 s H locs := by rw [hff4]; exact V
    have hfr : gh_fr f f4 (fun b => b ∈ ([] : List Nat)) := by rw [hff4]; exact hfr.put (Or.inr nz_q2)
    have h_vs_f4 : f4 vs = some (.inr (7, [.ref nu, .ref no, .ref ye, .ref ni, .ref al, .ref ga])) := by rw [hff4, gh_un ne_vs_q2]; exact h_vs_f3
    have h_ni_f4 : f4 ni = some (.inl (E.2.2.1 4, 0, .inr (.inr (.inr (.inr g0))))) := by rw [hff4, gh_un ne_ni_q2]; exact h_ni_f3
    have h_x_f4 : f4 x = some (.inl (E.2.2.1 2, X.length, .inl gX)) := by rw [hff4, gh_un ne_x_q2]; exact h_x_f3
    have h_y_f4 : f4 y = some (.inl (E.2.2.1 2, Y.length, .inl gY)) := by rw [hff4, gh_un ne_y_q2]; exact h_y_f3
    have h_q2_f4 : f4 q2 = some (.inl (E.2.2.1 2, X.length + Y.length, .inl (va_cpy gX ((fun _ => 0)) 0 0 X.length))) := by rw [hff4, gh_us]
    refine lv_aload_n hx hb d_Vs_joinedStrings_29 rfl (lv_at hl 3 rfl) ?_
    refine lv_iconst (v := 0) hx hb d_Vs_joinedStrings_30 (by decide) ?_
    refine lv_aload_n hx hb d_Vs_joinedStrings_31 rfl (lv_at hl 0 rfl) ?_
    refine lv_aload_n hx hb d_Vs_joinedStrings_32 rfl (lv_at hl 2 rfl) ?_
    refine gh_alen (t0 := 2) C V rfl h_x_f4 (v := nI X.length) rfl d_Vs_joinedStrings_33 ?_
    refine lv_aload_n hx hb d_Vs_joinedStrings_34 rfl (lv_at hl 3 rfl) ?_
    refine gh_alen (t0 := 2) C V rfl h_y_f4 (v := nI Y.length) rfl d_Vs_joinedStrings_35 ?_
    refine gh_copyc (sp := 0) (dp := X.length) (n := Y.length) C V hl.1 ac_link h_y_f4 h_q2_f4 (by omega) (by omega) (by omega) (by omega) (fun i hi => by rw [Nat.zero_add, hY2 i hi]; exact lt_fit hYk hi) (by first | decide | omega | (dsimp only; omega)) (by dsimp only; decide) d_Vs_joinedStrings_36 (fun H locs V => ?_)
    obtain ⟨f5, hff5⟩ : ∃ z9 : gh_F, z9 = gh_u f4 q2 (.inl (E.2.2.1 2, X.length + Y.length, .inl (va_cpy gY ((va_cpy gX ((fun _ => 0)) 0 0 X.length)) 0 X.length Y.length))) := ⟨_, rfl⟩
    have V : gh_V E A f5 s H locs := by rw [hff5]; exact V
    have hfr : gh_fr f f5 (fun b => b ∈ ([] : List Nat)) := by rw [hff5]; exact hfr.put (Or.inr nz_q2)
    have h_vs_f5 : f5 vs = some (.inr (7, [.ref nu, .ref no, .ref ye, .ref ni, .ref al, .ref ga])) := by rw [hff5, gh_un ne_vs_q2]; exact h_vs_f4
    have h_ni_f5 : f5 ni = some (.inl (E.2.2.1 4, 0, .inr (.inr (.inr (.inr g0))))) := by rw [hff5, gh_un ne_ni_q2]; exact h_ni_f4
    have h_x_f5 : f5 x = some (.inl (E.2.2.1 2, X.length, .inl gX)) := by rw [hff5, gh_un ne_x_q2]; exact h_x_f4
    have h_y_f5 : f5 y = some (.inl (E.2.2.1 2, Y.length, .inl gY)) := by rw [hff5, gh_un ne_y_q2]; exact h_y_f4
    have h_q2_f5 : f5 q2 = some (.inl (E.2.2.1 2, X.length + Y.length, .inl (va_cpy gY ((va_cpy gX ((fun _ => 0)) 0 0 X.length)) 0 X.length Y.length))) := by rw [hff5, gh_us]
    refine gh_new (fs := [.int 0, .long 0, .null, .null, .null, .int 0, .int 0]) C V gc_Va gi_Va ty_Va k_Vs_7 n_Va i_Va (by decide) (by first | decide | omega | (dsimp only; omega)) (by first | decide | omega | (dsimp only; omega)) d_Vs_joinedStrings_39 (fun q6 H hnq6 V => ?_)
    obtain ⟨f7, hff7⟩ : ∃ z9 : gh_F, z9 = gh_u f5 q6 (.inr (6, [.int 0, .long 0, .null, .null, .null, .int 0, .int 0])) := ⟨_, rfl⟩
    have V : gh_V E A f7 s H locs := by rw [hff7]; exact V
    have nz_q6 : f q6 = none := hfr.non hnq6
    have hfr : gh_fr f f7 (fun b => b ∈ ([] : List Nat)) := by rw [hff7]; exact hfr.put (Or.inr nz_q6)
    have ne_vs_q6 : vs ≠ q6 := gh_ne0 h_vs_f5 hnq6
    have h_vs_f7 : f7 vs = some (.inr (7, [.ref nu, .ref no, .ref ye, .ref ni, .ref al, .ref ga])) := by rw [hff7, gh_un ne_vs_q6]; exact h_vs_f5
    have ne_ni_q6 : ni ≠ q6 := gh_ne0 h_ni_f5 hnq6
    have h_ni_f7 : f7 ni = some (.inl (E.2.2.1 4, 0, .inr (.inr (.inr (.inr g0))))) := by rw [hff7, gh_un ne_ni_q6]; exact h_ni_f5
    have ne_x_q6 : x ≠ q6 := gh_ne0 h_x_f5 hnq6
    have h_x_f7 : f7 x = some (.inl (E.2.2.1 2, X.length, .inl gX)) := by rw [hff7, gh_un ne_x_q6]; exact h_x_f5
    have ne_y_q6 : y ≠ q6 := gh_ne0 h_y_f5 hnq6
    have h_y_f7 : f7 y = some (.inl (E.2.2.1 2, Y.length, .inl gY)) := by rw [hff7, gh_un ne_y_q6]; exact h_y_f5
    have ne_q2_q6 : q2 ≠ q6 := gh_ne0 h_q2_f5 hnq6
    have h_q2_f7 : f7 q2 = some (.inl (E.2.2.1 2, X.length + Y.length, .inl (va_cpy gY ((va_cpy gX ((fun _ => 0)) 0 0 X.length)) 0 X.length Y.length))) := by rw [hff7, gh_un ne_q2_q6]; exact h_q2_f5
    have h_q6_f7 : f7 q6 = some (.inr (6, [.int 0, .long 0, .null, .null, .null, .int 0, .int 0])) := by rw [hff7, gh_us]
    refine lv_dup hx hb d_Vs_joinedStrings_42 rfl ?_
    refine lv_iconst (v := 4) hx hb d_Vs_joinedStrings_43 (by decide) ?_
    refine lv_lconst (v := 0) hx hb d_Vs_joinedStrings_44 (by decide) ?_
    refine lv_aload_n hx hb d_Vs_joinedStrings_45 rfl (lv_at hl 0 rfl) ?_
    refine lv_aload_n hx hb d_Vs_joinedStrings_46 rfl (lv_at hl 1 rfl) ?_
    refine gh_get C V h_vs_f7 gc_Vs gi_Vs 3 (by decide) f_Vs_9 rfl rfl d_Vs_joinedStrings_47 ?_
    refine lv_aload_n hx hb d_Vs_joinedStrings_50 rfl (lv_at hl 1 rfl) ?_
    refine gh_get C V h_vs_f7 gc_Vs gi_Vs 3 (by decide) f_Vs_9 rfl rfl d_Vs_joinedStrings_51 ?_
    refine gh_callI C V hl.1 m_Va_init l_Vs_19 (c_Va_init l E _ f7 q6 4 0 q2 ni ni 0 g0 (fun _ => 0) (fun _ => 0) (fun _ => 0) h_q6_f7 h_ni_f7 (by decide) (fun j hj => absurd hj (Nat.not_lt_zero j))) rfl ⟨by first | decide | omega | (dsimp only; omega), by first | decide | omega | (dsimp only; omega)⟩ ⟨by first | decide | omega | (dsimp only; omega), by first | decide | omega | (dsimp only; omega)⟩ (Nat.le_of_ble_eq_true rfl) rfl d_Vs_joinedStrings_54 (fun r f8 H locs hp V => ?_)
    obtain ⟨rfl, h_q6_c, hfr2⟩ := hp
    refine W.eq (g2 := F0 m 57 ls [.ref q6]) rfl ?_
    have h_vs_f8 : f8 vs = some (.inr (7, [.ref nu, .ref no, .ref ye, .ref ni, .ref al, .ref ga])) := hfr2.at1 h_vs_f7 ne_vs_q6
    have h_ni_f8 : f8 ni = some (.inl (E.2.2.1 4, 0, .inr (.inr (.inr (.inr g0))))) := hfr2.at1 h_ni_f7 ne_ni_q6
    have h_x_f8 : f8 x = some (.inl (E.2.2.1 2, X.length, .inl gX)) := hfr2.at1 h_x_f7 ne_x_q6
    have h_y_f8 : f8 y = some (.inl (E.2.2.1 2, Y.length, .inl gY)) := hfr2.at1 h_y_f7 ne_y_q6
    have h_q2_f8 : f8 q2 = some (.inl (E.2.2.1 2, X.length + Y.length, .inl (va_cpy gY ((va_cpy gX ((fun _ => 0)) 0 0 X.length)) 0 X.length Y.length))) := hfr2.at1 h_q2_f7 ne_q2_q6
    have hfr : gh_fr f f8 (fun b => b ∈ ([] : List Nat)) := hfr.tr1 hfr2 (Or.inr nz_q6)
    have h_q6_c : f8 q6 = some (.inr (6, [.int 4, .long 0, .ref q2, .ref ni, .ref ni, .int 1, .int 0])) := h_q6_c
    refine gh_reta hAe C V hr (by first | exact Or.inl ⟨_, rfl⟩ | exact Or.inr ⟨_, rfl⟩) (by first | exact Or.inl rfl | exact Or.inr ⟨_, rfl⟩) hlocks d_Vs_joinedStrings_57 (by first | decide | omega | (dsimp only; omega)) (by first | decide | omega | (dsimp only; omega)) ?_
    have hlen : (X ++ Y).length = X.length + Y.length := List.length_append
    have ha9 := h_q2_f8
    rw [← hlen] at ha9
    exact ⟨by unfold vt_js; rw [if_pos c1]; exact ⟨q6, rfl, cv_S.cw ⟨q2, ni, ni, g0, g0, ⟨hP _ nz_q6, pni, pni⟩, h_q6_c, ⟨hP _ nz_q2, _, ha9, lt_joined hX2 hY2⟩, h_ni_f8, h_ni_f8⟩ (lt_cat hXk hYk c1)⟩, hfr⟩
  · have c1 : ¬ (X.length + Y.length) ≤ 24 := by rw [← gq_le (a := X.length + Y.length) (b := 24) (by omega) (by omega)]; exact c1
    refine lv_null hx hb d_Vs_joinedStrings_10 ?_
    refine gh_reta hAe C V hr (by first | exact Or.inl ⟨_, rfl⟩ | exact Or.inr ⟨_, rfl⟩) (by first | exact Or.inl rfl | exact Or.inr ⟨_, rfl⟩) hlocks d_Vs_joinedStrings_11 (by first | decide | omega | (dsimp only; omega)) (by first | decide | omega | (dsimp only; omega)) ?_
    exact ⟨by unfold vt_js; rw [if_neg c1]; exact rfl, hfr⟩
theorem d_Vs_sum_0 : decode b_Vs_sum 0 = .ok (.aload_n 1, 1) := by decide +kernel
theorem d_Vs_sum_1 : decode b_Vs_sum 1 = .ok (.getfield 78, 3) := by decide +kernel
theorem d_Vs_sum_4 : decode b_Vs_sum 4 = .ok (.ifCond .ne 5, 3) := by decide +kernel
theorem d_Vs_sum_7 : decode b_Vs_sum 7 = .ok (.aload_n 2, 1) := by decide +kernel
theorem d_Vs_sum_8 : decode b_Vs_sum 8 = .ok (.areturn, 1) := by decide +kernel
theorem d_Vs_sum_9 : decode b_Vs_sum 9 = .ok (.aload_n 2, 1) := by decide +kernel
theorem d_Vs_sum_10 : decode b_Vs_sum 10 = .ok (.getfield 78, 3) := by decide +kernel
theorem d_Vs_sum_13 : decode b_Vs_sum 13 = .ok (.ifCond .ne 5, 3) := by decide +kernel
theorem d_Vs_sum_16 : decode b_Vs_sum 16 = .ok (.aload_n 1, 1) := by decide +kernel
theorem d_Vs_sum_17 : decode b_Vs_sum 17 = .ok (.areturn, 1) := by decide +kernel
theorem d_Vs_sum_18 : decode b_Vs_sum 18 = .ok (.aload_n 1, 1) := by decide +kernel
theorem d_Vs_sum_19 : decode b_Vs_sum 19 = .ok (.getfield 78, 3) := by decide +kernel
theorem d_Vs_sum_22 : decode b_Vs_sum 22 = .ok (.aload_n 2, 1) := by decide +kernel
theorem d_Vs_sum_23 : decode b_Vs_sum 23 = .ok (.getfield 78, 3) := by decide +kernel
theorem d_Vs_sum_26 : decode b_Vs_sum 26 = .ok (.if_icmp .eq 5, 3) := by decide +kernel
theorem d_Vs_sum_29 : decode b_Vs_sum 29 = .ok (.aconst_null, 1) := by decide +kernel
theorem d_Vs_sum_30 : decode b_Vs_sum 30 = .ok (.areturn, 1) := by decide +kernel
theorem d_Vs_sum_31 : decode b_Vs_sum 31 = .ok (.aload_n 1, 1) := by decide +kernel
theorem d_Vs_sum_32 : decode b_Vs_sum 32 = .ok (.getfield 78, 3) := by decide +kernel
theorem d_Vs_sum_35 : decode b_Vs_sum 35 = .ok (.tableswitch 140 3 6 #[29, 43, 56, 98], 29) := by decide +kernel
theorem d_Vs_sum_64 : decode b_Vs_sum 64 = .ok (.aload_n 0, 1) := by decide +kernel
theorem d_Vs_sum_65 : decode b_Vs_sum 65 = .ok (.aload_n 1, 1) := by decide +kernel
theorem d_Vs_sum_66 : decode b_Vs_sum 66 = .ok (.getfield 81, 3) := by decide +kernel
theorem d_Vs_sum_69 : decode b_Vs_sum 69 = .ok (.aload_n 2, 1) := by decide +kernel
theorem d_Vs_sum_70 : decode b_Vs_sum 70 = .ok (.getfield 81, 3) := by decide +kernel
theorem d_Vs_sum_73 : decode b_Vs_sum 73 = .ok (.ladd, 1) := by decide +kernel
theorem d_Vs_sum_74 : decode b_Vs_sum 74 = .ok (.invokevirtual 85, 3) := by decide +kernel
theorem d_Vs_sum_77 : decode b_Vs_sum 77 = .ok (.areturn, 1) := by decide +kernel
theorem d_Vs_sum_78 : decode b_Vs_sum 78 = .ok (.aload_n 0, 1) := by decide +kernel
theorem d_Vs_sum_79 : decode b_Vs_sum 79 = .ok (.aload_n 1, 1) := by decide +kernel
theorem d_Vs_sum_80 : decode b_Vs_sum 80 = .ok (.getfield 88, 3) := by decide +kernel
theorem d_Vs_sum_83 : decode b_Vs_sum 83 = .ok (.aload_n 2, 1) := by decide +kernel
theorem d_Vs_sum_84 : decode b_Vs_sum 84 = .ok (.getfield 88, 3) := by decide +kernel
theorem d_Vs_sum_87 : decode b_Vs_sum 87 = .ok (.invokevirtual 91, 3) := by decide +kernel
theorem d_Vs_sum_90 : decode b_Vs_sum 90 = .ok (.areturn, 1) := by decide +kernel
theorem d_Vs_sum_91 : decode b_Vs_sum 91 = .ok (.aload_n 0, 1) := by decide +kernel
theorem d_Vs_sum_92 : decode b_Vs_sum 92 = .ok (.getfield 40, 3) := by decide +kernel
theorem d_Vs_sum_95 : decode b_Vs_sum 95 = .ok (.invokevirtual 62, 3) := by decide +kernel
theorem d_Vs_sum_98 : decode b_Vs_sum 98 = .ok (.aload_n 0, 1) := by decide +kernel
theorem d_Vs_sum_99 : decode b_Vs_sum 99 = .ok (.getfield 40, 3) := by decide +kernel
theorem d_Vs_sum_102 : decode b_Vs_sum 102 = .ok (.aload_n 1, 1) := by decide +kernel
theorem d_Vs_sum_103 : decode b_Vs_sum 103 = .ok (.invokevirtual 95, 3) := by decide +kernel
theorem d_Vs_sum_106 : decode b_Vs_sum 106 = .ok (.ifCond .eq 25, 3) := by decide +kernel
theorem d_Vs_sum_109 : decode b_Vs_sum 109 = .ok (.aload_n 0, 1) := by decide +kernel
theorem d_Vs_sum_110 : decode b_Vs_sum 110 = .ok (.getfield 40, 3) := by decide +kernel
theorem d_Vs_sum_113 : decode b_Vs_sum 113 = .ok (.aload_n 2, 1) := by decide +kernel
theorem d_Vs_sum_114 : decode b_Vs_sum 114 = .ok (.invokevirtual 95, 3) := by decide +kernel
theorem d_Vs_sum_117 : decode b_Vs_sum 117 = .ok (.ifCond .eq 14, 3) := by decide +kernel
theorem d_Vs_sum_120 : decode b_Vs_sum 120 = .ok (.aload_n 0, 1) := by decide +kernel
theorem d_Vs_sum_121 : decode b_Vs_sum 121 = .ok (.aload_n 0, 1) := by decide +kernel
theorem d_Vs_sum_122 : decode b_Vs_sum 122 = .ok (.getfield 40, 3) := by decide +kernel
theorem d_Vs_sum_125 : decode b_Vs_sum 125 = .ok (.invokevirtual 98, 3) := by decide +kernel
theorem d_Vs_sum_128 : decode b_Vs_sum 128 = .ok (.goto 4, 3) := by decide +kernel
theorem d_Vs_sum_131 : decode b_Vs_sum 131 = .ok (.aconst_null, 1) := by decide +kernel
theorem d_Vs_sum_132 : decode b_Vs_sum 132 = .ok (.areturn, 1) := by decide +kernel
theorem d_Vs_sum_133 : decode b_Vs_sum 133 = .ok (.aload_n 0, 1) := by decide +kernel
theorem d_Vs_sum_134 : decode b_Vs_sum 134 = .ok (.getfield 40, 3) := by decide +kernel
theorem d_Vs_sum_137 : decode b_Vs_sum 137 = .ok (.invokevirtual 62, 3) := by decide +kernel
theorem d_Vs_sum_140 : decode b_Vs_sum 140 = .ok (.aload_n 0, 1) := by decide +kernel
theorem d_Vs_sum_141 : decode b_Vs_sum 141 = .ok (.getfield 40, 3) := by decide +kernel
theorem d_Vs_sum_144 : decode b_Vs_sum 144 = .ok (.aload_n 1, 1) := by decide +kernel
theorem d_Vs_sum_145 : decode b_Vs_sum 145 = .ok (.invokevirtual 65, 3) := by decide +kernel
theorem d_Vs_sum_148 : decode b_Vs_sum 148 = .ok (.ifCond .eq 25, 3) := by decide +kernel
theorem d_Vs_sum_151 : decode b_Vs_sum 151 = .ok (.aload_n 0, 1) := by decide +kernel
theorem d_Vs_sum_152 : decode b_Vs_sum 152 = .ok (.getfield 40, 3) := by decide +kernel
theorem d_Vs_sum_155 : decode b_Vs_sum 155 = .ok (.aload_n 2, 1) := by decide +kernel
theorem d_Vs_sum_156 : decode b_Vs_sum 156 = .ok (.invokevirtual 65, 3) := by decide +kernel
theorem d_Vs_sum_159 : decode b_Vs_sum 159 = .ok (.ifCond .eq 14, 3) := by decide +kernel
theorem d_Vs_sum_162 : decode b_Vs_sum 162 = .ok (.aload_n 0, 1) := by decide +kernel
theorem d_Vs_sum_163 : decode b_Vs_sum 163 = .ok (.aload_n 0, 1) := by decide +kernel
theorem d_Vs_sum_164 : decode b_Vs_sum 164 = .ok (.getfield 40, 3) := by decide +kernel
theorem d_Vs_sum_167 : decode b_Vs_sum 167 = .ok (.invokevirtual 73, 3) := by decide +kernel
theorem d_Vs_sum_170 : decode b_Vs_sum 170 = .ok (.goto 4, 3) := by decide +kernel
theorem d_Vs_sum_173 : decode b_Vs_sum 173 = .ok (.aconst_null, 1) := by decide +kernel
theorem d_Vs_sum_174 : decode b_Vs_sum 174 = .ok (.areturn, 1) := by decide +kernel
theorem d_Vs_sum_175 : decode b_Vs_sum 175 = .ok (.aconst_null, 1) := by decide +kernel
theorem d_Vs_sum_176 : decode b_Vs_sum 176 = .ok (.areturn, 1) := by decide +kernel
set_option maxHeartbeats 4000000 in
set_option maxRecDepth 100000 in
theorem c_Vs_sum (l : Launch) (E : gh_E) (sz : Nat) (f : gh_F) (P : Nat → Prop) (vs nu no ye ni al ga : Nat) (k i : Nat) (x y : Nat) (X Y : vt) (hV : vs_C E P f vs nu no ye ni al ga) (hP : ∀ q, f q = none → P q) (hg : ga_0 E P f ga k i) (hX : cw E P f x X) (hY : cw E P f y Y) : gh_M l y_Vs_sum b_Vs_sum 3 (some (.object "QueryMachine$Value")) E sz [.ref vs, .ref x, .ref y] f { frames := 4, cells := 3, slots := 39, locals := 200 } (fun r g => vr_A E P g (vt_sum X Y) r ∧ ga_0 E P g ga k i ∧ gh_fr f g (ga_M ga k i)) := by
  have hVc := hV
  obtain ⟨⟨pvs, pni, pal⟩, hvs, hnu, hno, hye, ⟨g0, hni⟩, g1, X1, hal, hX1⟩ := hVc
  have hgc := hg
  obtain ⟨hpa, -⟩ := hgc
  have hoX := vo_o.mp hX.2
  have hoY := vo_o.mp hY.2
  have hk6 := hoX.1
  have hk6y := hoY.1
  have hXl := hoX.2.2.2.1
  have hYl := hoY.2.2.2.1
  refine gh_open (by decide) (Nat.le_of_ble_eq_true rfl) ?_
  intro p e s m args below meth c A ls hAe C V hr hlocks hname hl
  have hx := C.1
  have hb := C.2.1
  have hl : lv_has ls 3 [(0, .ref vs), (1, .ref x), (2, .ref y)] := hl
  have hfr : gh_fr f f (fun b => b ∈ ([ga, k, i] : List Nat)) := gh_fr.rf
  obtain ⟨la_1, ka_1, ia_1, gk_1, gi_1, K_1, B_1, hp_1, h0_1, h1_1, h2_1, h3_1, h4_1, h5_1⟩ := cv_o.mp hX.1
  obtain ⟨la_2, ka_2, ia_2, gk_2, gi_2, K_2, B_2, hp_2, h0_2, h1_2, h2_2, h3_2, h4_2, h5_2⟩ := cv_o.mp hY.1
  refine lv_aload_n hx hb d_Vs_sum_0 rfl (lv_at hl 1 rfl) ?_
  refine gh_get C V h0_1 gc_Va gi_Va 0 (by decide) f_Vs_78 rfl rfl d_Vs_sum_1 ?_
  refine lv_if_ne (tgt := 9) hx hb d_Vs_sum_4 (by decide) (fun c3 => ?_) (fun c3 => ?_)
  · have c3 : ¬ (vt_k X) = 0 := by rw [← gq_eq (a := vt_k X) (b := 0) (by omega) (by omega)]; exact c3
    refine lv_aload_n hx hb d_Vs_sum_9 rfl (lv_at hl 2 rfl) ?_
    refine gh_get C V h0_2 gc_Va gi_Va 0 (by decide) f_Vs_78 rfl rfl d_Vs_sum_10 ?_
    refine lv_if_ne (tgt := 18) hx hb d_Vs_sum_13 (by decide) (fun c4 => ?_) (fun c4 => ?_)
    · have c4 : ¬ (vt_k Y) = 0 := by rw [← gq_eq (a := vt_k Y) (b := 0) (by omega) (by omega)]; exact c4
      refine lv_aload_n hx hb d_Vs_sum_18 rfl (lv_at hl 1 rfl) ?_
      refine gh_get C V h0_1 gc_Va gi_Va 0 (by decide) f_Vs_78 rfl rfl d_Vs_sum_19 ?_
      refine lv_aload_n hx hb d_Vs_sum_22 rfl (lv_at hl 2 rfl) ?_
      refine gh_get C V h0_2 gc_Va gi_Va 0 (by decide) f_Vs_78 rfl rfl d_Vs_sum_23 ?_
      refine lv_icmp_eq (tgt := 31) hx hb d_Vs_sum_26 (by decide) (fun c5 => ?_) (fun c5 => ?_)
      · have c5 : (vt_k X) = (vt_k Y) := by rw [← gq_eq (a := vt_k X) (b := vt_k Y) (by omega) (by omega)]; exact c5
        refine lv_aload_n hx hb d_Vs_sum_31 rfl (lv_at hl 1 rfl) ?_
        refine gh_get C V h0_1 gc_Va gi_Va 0 (by decide) f_Vs_78 rfl rfl d_Vs_sum_32 ?_
        rcases (show vt_k X = 1 ∨ vt_k X = 2 ∨ vt_k X = 3 ∨ vt_k X = 4 ∨ vt_k X = 5 ∨ vt_k X = 6 by omega) with hk | hk | hk | hk | hk | hk
        · rw [hk]
          refine lv_tableOut (tgt := 175) hx hb d_Vs_sum_35 (by decide) (by decide) ?_
          refine lv_null hx hb d_Vs_sum_175 ?_
          refine gh_reta hAe C V hr (by first | exact Or.inl ⟨_, rfl⟩ | exact Or.inr ⟨_, rfl⟩) (by first | exact Or.inl rfl | exact Or.inr ⟨_, rfl⟩) hlocks d_Vs_sum_176 (by first | decide | omega | (dsimp only; omega)) (by first | decide | omega | (dsimp only; omega)) ?_
          have hsm : vt_sum X Y = none := by unfold vt_sum; rw [if_neg (by omega), if_neg (by omega), if_pos (by omega), if_neg (by omega), if_neg (by omega), if_neg (by omega), if_neg (by omega)]
          rw [hsm]
          exact ⟨rfl, hg, hfr⟩
        · rw [hk]
          refine lv_tableOut (tgt := 175) hx hb d_Vs_sum_35 (by decide) (by decide) ?_
          refine lv_null hx hb d_Vs_sum_175 ?_
          refine gh_reta hAe C V hr (by first | exact Or.inl ⟨_, rfl⟩ | exact Or.inr ⟨_, rfl⟩) (by first | exact Or.inl rfl | exact Or.inr ⟨_, rfl⟩) hlocks d_Vs_sum_176 (by first | decide | omega | (dsimp only; omega)) (by first | decide | omega | (dsimp only; omega)) ?_
          have hsm : vt_sum X Y = none := by unfold vt_sum; rw [if_neg (by omega), if_neg (by omega), if_pos (by omega), if_neg (by omega), if_neg (by omega), if_neg (by omega), if_neg (by omega)]
          rw [hsm]
          exact ⟨rfl, hg, hfr⟩
        · rw [hk]
          refine lv_tableIn (off := 29) (tgt := 64) hx hb d_Vs_sum_35 (by decide) (by decide) (by decide) (by decide) ?_
          refine lv_aload_n hx hb d_Vs_sum_64 rfl (lv_at hl 0 rfl) ?_
          refine lv_aload_n hx hb d_Vs_sum_65 rfl (lv_at hl 1 rfl) ?_
          refine gh_get C V h0_1 gc_Va gi_Va 1 (by decide) f_Vs_81 rfl rfl d_Vs_sum_66 ?_
          refine lv_aload_n hx hb d_Vs_sum_69 rfl (lv_at hl 2 rfl) ?_
          refine gh_get C V h0_2 gc_Va gi_Va 1 (by decide) f_Vs_81 rfl rfl d_Vs_sum_70 ?_
          refine lv_ladd hx hb d_Vs_sum_73 ?_
          refine gh_callV C V hl.1 m_Vs_number l_Vs_85 (c_Vs_number l E _ f P vs nu no ye ni al ga ((vt_n X) + (vt_n Y)) hV hP) rfl hvs gc_Vs ⟨by first | decide | omega | (dsimp only; omega), by first | decide | omega | (dsimp only; omega)⟩ ⟨by first | decide | omega | (dsimp only; omega), by first | decide | omega | (dsimp only; omega)⟩ (Nat.le_of_ble_eq_true rfl) rfl d_Vs_sum_74 (fun r f6 H locs hp V => ?_)
          obtain ⟨⟨b9, rfl, hb9⟩, hfr2⟩ := hp
          refine W.eq (g2 := F0 m 77 ls [.ref b9]) rfl ?_
          have h_vs_f6 : f6 vs = some (.inr (7, [.ref nu, .ref no, .ref ye, .ref ni, .ref al, .ref ga])) := hfr2.at hvs (by simp)
          have h_x_f6 : f6 x = some (.inr (6, [.int (nI (vt_k X)), .long (vt_n X), .ref la_1, .ref ka_1, .ref ia_1, .int (nI (vt_w X)), .int (nI (vt_h X))])) := hfr2.at h0_1 (by simp)
          have h_ka_1_f6 : f6 ka_1 = some (.inl (E.2.2.1 4, (vt_q X).length, .inr (.inr (.inr (.inr gk_1))))) := hfr2.at h2_1 (by simp)
          have h_ia_1_f6 : f6 ia_1 = some (.inl (E.2.2.1 4, vt_c X, .inr (.inr (.inr (.inr gi_1))))) := hfr2.at h3_1 (by simp)
          have h_y_f6 : f6 y = some (.inr (6, [.int (nI (vt_k Y)), .long (vt_n Y), .ref la_2, .ref ka_2, .ref ia_2, .int (nI (vt_w Y)), .int (nI (vt_h Y))])) := hfr2.at h0_2 (by simp)
          have h_ka_2_f6 : f6 ka_2 = some (.inl (E.2.2.1 4, (vt_q Y).length, .inr (.inr (.inr (.inr gk_2))))) := hfr2.at h2_2 (by simp)
          have h_ia_2_f6 : f6 ia_2 = some (.inl (E.2.2.1 4, vt_c Y, .inr (.inr (.inr (.inr gi_2))))) := hfr2.at h3_2 (by simp)
          have hfr : gh_fr f f6 (fun b => b ∈ ([ga, k, i] : List Nat)) := hfr.tr hfr2 (fun _ _ _ z => absurd z (by simp))
          refine gh_reta hAe C V hr (by first | exact Or.inl ⟨_, rfl⟩ | exact Or.inr ⟨_, rfl⟩) (by first | exact Or.inl rfl | exact Or.inr ⟨_, rfl⟩) hlocks d_Vs_sum_77 (by first | decide | omega | (dsimp only; omega)) (by first | decide | omega | (dsimp only; omega)) ?_
          have hsm : vt_sum X Y = some (vt_i (vt_n X + vt_n Y)) := by unfold vt_sum; rw [if_neg (by omega), if_neg (by omega), if_pos (by omega), if_pos hk]
          rw [hsm]
          exact ⟨⟨_, rfl, hb9⟩, hg.keep hfr2 (by simp) (by simp) (by simp), hfr⟩
        · rw [hk]
          refine lv_tableIn (off := 43) (tgt := 78) hx hb d_Vs_sum_35 (by decide) (by decide) (by decide) (by decide) ?_
          refine lv_aload_n hx hb d_Vs_sum_78 rfl (lv_at hl 0 rfl) ?_
          refine lv_aload_n hx hb d_Vs_sum_79 rfl (lv_at hl 1 rfl) ?_
          refine gh_get C V h0_1 gc_Va gi_Va 2 (by decide) f_Vs_88 rfl rfl d_Vs_sum_80 ?_
          refine lv_aload_n hx hb d_Vs_sum_83 rfl (lv_at hl 2 rfl) ?_
          refine gh_get C V h0_2 gc_Va gi_Va 2 (by decide) f_Vs_88 rfl rfl d_Vs_sum_84 ?_
          refine gh_callV C V hl.1 m_Vs_joinedStrings l_Vs_91 (c_Vs_joinedStrings l E _ f P vs nu no ye ni al ga la_1 la_2 (vt_l X) (vt_l Y) hV hP (h1_1.2 hk) (h1_2.2 (by omega)) hXl hYl) rfl hvs gc_Vs ⟨by first | decide | omega | (dsimp only; omega), by first | decide | omega | (dsimp only; omega)⟩ ⟨by first | decide | omega | (dsimp only; omega), by first | decide | omega | (dsimp only; omega)⟩ (Nat.le_of_ble_eq_true rfl) rfl d_Vs_sum_87 (fun r f7 H locs hp V => ?_)
          obtain ⟨hva, hfr2⟩ := hp
          cases hmk : vt_js (vt_l X) (vt_l Y) with
          | none =>
            rw [hmk] at hva
            have hva : r = some .null := hva
            subst hva
            refine W.eq (g2 := F0 m 90 ls [.null]) rfl ?_
            refine gh_reta hAe C V hr (by first | exact Or.inl ⟨_, rfl⟩ | exact Or.inr ⟨_, rfl⟩) (by first | exact Or.inl rfl | exact Or.inr ⟨_, rfl⟩) hlocks d_Vs_sum_90 (by first | decide | omega | (dsimp only; omega)) (by first | decide | omega | (dsimp only; omega)) ?_
            have hsm : vt_sum X Y = vt_js (vt_l X) (vt_l Y) := by unfold vt_sum; rw [if_neg (by omega), if_neg (by omega), if_pos (by omega), if_neg (by omega), if_pos hk]
            rw [hsm]
            exact ⟨by rw [hmk]; exact rfl, hg.keep hfr2 (by simp) (by simp) (by simp), hfr.tr hfr2 (fun _ _ _ z => absurd z (by simp))⟩
          | some M9 =>
            rw [hmk] at hva
            obtain ⟨b9, rfl, hb9⟩ := hva
            refine W.eq (g2 := F0 m 90 ls [.ref b9]) rfl ?_
            refine gh_reta hAe C V hr (by first | exact Or.inl ⟨_, rfl⟩ | exact Or.inr ⟨_, rfl⟩) (by first | exact Or.inl rfl | exact Or.inr ⟨_, rfl⟩) hlocks d_Vs_sum_90 (by first | decide | omega | (dsimp only; omega)) (by first | decide | omega | (dsimp only; omega)) ?_
            have hsm : vt_sum X Y = vt_js (vt_l X) (vt_l Y) := by unfold vt_sum; rw [if_neg (by omega), if_neg (by omega), if_pos (by omega), if_neg (by omega), if_pos hk]
            rw [hsm]
            exact ⟨by rw [hmk]; exact ⟨_, rfl, hb9⟩, hg.keep hfr2 (by simp) (by simp) (by simp), hfr.tr hfr2 (fun _ _ _ z => absurd z (by simp))⟩
        · rw [hk]
          refine lv_tableIn (off := 56) (tgt := 91) hx hb d_Vs_sum_35 (by decide) (by decide) (by decide) (by decide) ?_
          refine lv_aload_n hx hb d_Vs_sum_91 rfl (lv_at hl 0 rfl) ?_
          refine gh_get C V hvs gc_Vs gi_Vs 5 (by decide) f_Vs_40 rfl rfl d_Vs_sum_92 ?_
          have hg1 := hg
          obtain ⟨_, _, n0_, gk0_, gi0_, hga_, -⟩ := hg1
          refine gh_callV C V hl.1 m_Ga_clear l_Vs_62 (c_Ga_clear l E _ f P ga k i hg) rfl hga_ gc_Ga ⟨by first | decide | omega | (dsimp only; omega), by first | decide | omega | (dsimp only; omega)⟩ ⟨by first | decide | omega | (dsimp only; omega), by first | decide | omega | (dsimp only; omega)⟩ (Nat.le_of_ble_eq_true rfl) rfl d_Vs_sum_95 (fun r f8 H locs hp V => ?_)
          obtain ⟨rfl, hgR, hfr2⟩ := hp
          refine W.eq (g2 := F0 m 98 ls []) rfl ?_
          have h_vs_f8 : f8 vs = some (.inr (7, [.ref nu, .ref no, .ref ye, .ref ni, .ref al, .ref ga])) := hfr2.at hvs (fun z => ga_Mn hpa _ z pvs)
          have hfr : gh_fr f f8 (fun b => b ∈ ([ga, k, i] : List Nat)) := hfr.tr hfr2 (fun _ _ _ z => z)
          refine lv_aload_n hx hb d_Vs_sum_98 rfl (lv_at hl 0 rfl) ?_
          refine gh_get C V h_vs_f8 gc_Vs gi_Vs 5 (by decide) f_Vs_40 rfl rfl d_Vs_sum_99 ?_
          refine lv_aload_n hx hb d_Vs_sum_102 rfl (lv_at hl 1 rfl) ?_
          have hgu := hgR
          obtain ⟨_, _, gku10, giu10, Ku10, Bu10, hau10, -⟩ := hgu
          refine gh_callV C V hl.1 m_Ga_addAll l_Vs_95 (c_Ga_addAll l E _ f8 P ga k i [] [] x X hgR (hX.keep hfr (ga_Mn hpa))) rfl hau10 gc_Ga ⟨by first | decide | omega | (dsimp only; omega), by first | decide | omega | (dsimp only; omega)⟩ ⟨by first | decide | omega | (dsimp only; omega), by first | decide | omega | (dsimp only; omega)⟩ (Nat.le_of_ble_eq_true rfl) rfl d_Vs_sum_103 (fun r f9 H locs hp V => ?_)
          cases hs11 : vt_aa X (vt_c X) 0 [] with
          | none =>
            rw [hs11] at hp
            obtain ⟨rfl, hg0_, hfr2⟩ := hp
            have h_vs_f9 : f9 vs = some (.inr (7, [.ref nu, .ref no, .ref ye, .ref ni, .ref al, .ref ga])) := hfr2.at h_vs_f8 (fun z => ga_Mn hpa _ z pvs)
            have hfr : gh_fr f f9 (fun b => b ∈ ([ga, k, i] : List Nat)) := hfr.tr hfr2 (fun _ _ _ z => z)
            refine W.eq (g2 := F0 m 106 ls [.int 0]) rfl ?_
            refine lv_if_eq (tgt := 131) hx hb d_Vs_sum_106 (by decide) (fun c12 => ?_) (fun c12 => absurd (by decide) c12)
            refine lv_null hx hb d_Vs_sum_131 ?_
            refine gh_reta hAe C V hr (by first | exact Or.inl ⟨_, rfl⟩ | exact Or.inr ⟨_, rfl⟩) (by first | exact Or.inl rfl | exact Or.inr ⟨_, rfl⟩) hlocks d_Vs_sum_132 (by first | decide | omega | (dsimp only; omega)) (by first | decide | omega | (dsimp only; omega)) ?_
            have hsm : vt_sum X Y = vt_jl X Y := by unfold vt_sum; rw [if_neg (by omega), if_neg (by omega), if_pos (by omega), if_neg (by omega), if_neg (by omega), if_pos hk]
            rw [hsm]
            exact ⟨by simp only [vt_jl, hs11]; exact rfl, hg0_, hfr⟩
          | some s11 =>
            rw [hs11] at hp
            obtain ⟨rfl, hgs11, hfr2⟩ := hp
            have h_vs_f9 : f9 vs = some (.inr (7, [.ref nu, .ref no, .ref ye, .ref ni, .ref al, .ref ga])) := hfr2.at h_vs_f8 (fun z => ga_Mn hpa _ z pvs)
            have hfr : gh_fr f f9 (fun b => b ∈ ([ga, k, i] : List Nat)) := hfr.tr hfr2 (fun _ _ _ z => z)
            refine W.eq (g2 := F0 m 106 ls [.int 1]) rfl ?_
            refine lv_if_eq (tgt := 131) hx hb d_Vs_sum_106 (by decide) (fun c13 => absurd c13 (by decide)) (fun c13 => ?_)
            refine lv_aload_n hx hb d_Vs_sum_109 rfl (lv_at hl 0 rfl) ?_
            refine gh_get C V h_vs_f9 gc_Vs gi_Vs 5 (by decide) f_Vs_40 rfl rfl d_Vs_sum_110 ?_
            refine lv_aload_n hx hb d_Vs_sum_113 rfl (lv_at hl 2 rfl) ?_
            have hgu := hgs11
            obtain ⟨_, _, gku15, giu15, Ku15, Bu15, hau15, -⟩ := hgu
            refine gh_callV C V hl.1 m_Ga_addAll l_Vs_95 (c_Ga_addAll l E _ f9 P ga k i [] s11 y Y hgs11 (hY.keep hfr (ga_Mn hpa))) rfl hau15 gc_Ga ⟨by first | decide | omega | (dsimp only; omega), by first | decide | omega | (dsimp only; omega)⟩ ⟨by first | decide | omega | (dsimp only; omega), by first | decide | omega | (dsimp only; omega)⟩ (Nat.le_of_ble_eq_true rfl) rfl d_Vs_sum_114 (fun r f14 H locs hp V => ?_)
            cases hs16 : vt_aa Y (vt_c Y) 0 s11 with
            | none =>
              rw [hs16] at hp
              obtain ⟨rfl, hg0_, hfr2⟩ := hp
              have h_vs_f14 : f14 vs = some (.inr (7, [.ref nu, .ref no, .ref ye, .ref ni, .ref al, .ref ga])) := hfr2.at h_vs_f9 (fun z => ga_Mn hpa _ z pvs)
              have hfr : gh_fr f f14 (fun b => b ∈ ([ga, k, i] : List Nat)) := hfr.tr hfr2 (fun _ _ _ z => z)
              refine W.eq (g2 := F0 m 117 ls [.int 0]) rfl ?_
              refine lv_if_eq (tgt := 131) hx hb d_Vs_sum_117 (by decide) (fun c17 => ?_) (fun c17 => absurd (by decide) c17)
              refine lv_null hx hb d_Vs_sum_131 ?_
              refine gh_reta hAe C V hr (by first | exact Or.inl ⟨_, rfl⟩ | exact Or.inr ⟨_, rfl⟩) (by first | exact Or.inl rfl | exact Or.inr ⟨_, rfl⟩) hlocks d_Vs_sum_132 (by first | decide | omega | (dsimp only; omega)) (by first | decide | omega | (dsimp only; omega)) ?_
              have hsm : vt_sum X Y = vt_jl X Y := by unfold vt_sum; rw [if_neg (by omega), if_neg (by omega), if_pos (by omega), if_neg (by omega), if_neg (by omega), if_pos hk]
              rw [hsm]
              exact ⟨by simp only [vt_jl, hs11, hs16]; exact rfl, hg0_, hfr⟩
            | some s16 =>
              rw [hs16] at hp
              obtain ⟨rfl, hgs16, hfr2⟩ := hp
              have h_vs_f14 : f14 vs = some (.inr (7, [.ref nu, .ref no, .ref ye, .ref ni, .ref al, .ref ga])) := hfr2.at h_vs_f9 (fun z => ga_Mn hpa _ z pvs)
              have hfr : gh_fr f f14 (fun b => b ∈ ([ga, k, i] : List Nat)) := hfr.tr hfr2 (fun _ _ _ z => z)
              refine W.eq (g2 := F0 m 117 ls [.int 1]) rfl ?_
              refine lv_if_eq (tgt := 131) hx hb d_Vs_sum_117 (by decide) (fun c18 => absurd c18 (by decide)) (fun c18 => ?_)
              refine lv_aload_n hx hb d_Vs_sum_120 rfl (lv_at hl 0 rfl) ?_
              refine lv_aload_n hx hb d_Vs_sum_121 rfl (lv_at hl 0 rfl) ?_
              refine gh_get C V h_vs_f14 gc_Vs gi_Vs 5 (by decide) f_Vs_40 rfl rfl d_Vs_sum_122 ?_
              refine gh_callV C V hl.1 m_Vs_list l_Vs_98 (c_Vs_list l E _ f14 P vs nu no ye ni al ga ga k i [] s16 (hV.keep hfr (ga_Mn hpa)) (fun q h => hP q (hfr.non h)) hgs16) rfl h_vs_f14 gc_Vs ⟨by first | decide | omega | (dsimp only; omega), by first | decide | omega | (dsimp only; omega)⟩ ⟨by first | decide | omega | (dsimp only; omega), by first | decide | omega | (dsimp only; omega)⟩ (Nat.le_of_ble_eq_true rfl) rfl d_Vs_sum_125 (fun r f19 H locs hp V => ?_)
              obtain ⟨hva, hfr2⟩ := hp
              have hg9 := (hgs16.keep hfr2 (fun _ z => absurd z (by simp)) (by simp) (by simp) (by simp)).raw
              have hfr : gh_fr f f19 (fun b => b ∈ ([ga, k, i] : List Nat)) := hfr.tr hfr2 (fun _ _ _ z => absurd z (by simp))
              cases hmk : vt_mk 5 [] s16 with
              | none =>
                rw [hmk] at hva
                have hva : r = some .null := hva
                subst hva
                refine W.eq (g2 := F0 m 128 ls [.null]) rfl ?_
                refine lv_goto (tgt := 132) hx hb d_Vs_sum_128 (by decide) ?_
                refine gh_reta hAe C V hr (by first | exact Or.inl ⟨_, rfl⟩ | exact Or.inr ⟨_, rfl⟩) (by first | exact Or.inl rfl | exact Or.inr ⟨_, rfl⟩) hlocks d_Vs_sum_132 (by first | decide | omega | (dsimp only; omega)) (by first | decide | omega | (dsimp only; omega)) ?_
                have hsm : vt_sum X Y = vt_jl X Y := by unfold vt_sum; rw [if_neg (by omega), if_neg (by omega), if_pos (by omega), if_neg (by omega), if_neg (by omega), if_pos hk]
                rw [hsm]
                exact ⟨by simp only [vt_jl, hs11, hs16, hmk]; exact rfl, hg9, hfr⟩
              | some M9 =>
                rw [hmk] at hva
                obtain ⟨b9, rfl, hb9⟩ := hva
                refine W.eq (g2 := F0 m 128 ls [.ref b9]) rfl ?_
                refine lv_goto (tgt := 132) hx hb d_Vs_sum_128 (by decide) ?_
                refine gh_reta hAe C V hr (by first | exact Or.inl ⟨_, rfl⟩ | exact Or.inr ⟨_, rfl⟩) (by first | exact Or.inl rfl | exact Or.inr ⟨_, rfl⟩) hlocks d_Vs_sum_132 (by first | decide | omega | (dsimp only; omega)) (by first | decide | omega | (dsimp only; omega)) ?_
                have hsm : vt_sum X Y = vt_jl X Y := by unfold vt_sum; rw [if_neg (by omega), if_neg (by omega), if_pos (by omega), if_neg (by omega), if_neg (by omega), if_pos hk]
                rw [hsm]
                exact ⟨by simp only [vt_jl, hs11, hs16, hmk]; exact ⟨_, rfl, hb9⟩, hg9, hfr⟩
        · rw [hk]
          refine lv_tableIn (off := 98) (tgt := 133) hx hb d_Vs_sum_35 (by decide) (by decide) (by decide) (by decide) ?_
          have hqX : (vt_q X).length = vt_c X := by rw [hoX.2.2.2.2.1, if_pos hk]
          have hqY : (vt_q Y).length = vt_c Y := by rw [hoY.2.2.2.2.1, if_pos (by omega)]
          refine lv_aload_n hx hb d_Vs_sum_133 rfl (lv_at hl 0 rfl) ?_
          refine gh_get C V hvs gc_Vs gi_Vs 5 (by decide) f_Vs_40 rfl rfl d_Vs_sum_134 ?_
          have hg1 := hg
          obtain ⟨_, _, n0_, gk0_, gi0_, hga_, -⟩ := hg1
          refine gh_callV C V hl.1 m_Ga_clear l_Vs_62 (c_Ga_clear l E _ f P ga k i hg) rfl hga_ gc_Ga ⟨by first | decide | omega | (dsimp only; omega), by first | decide | omega | (dsimp only; omega)⟩ ⟨by first | decide | omega | (dsimp only; omega), by first | decide | omega | (dsimp only; omega)⟩ (Nat.le_of_ble_eq_true rfl) rfl d_Vs_sum_137 (fun r f20 H locs hp V => ?_)
          obtain ⟨rfl, hgR, hfr2⟩ := hp
          refine W.eq (g2 := F0 m 140 ls []) rfl ?_
          have h_vs_f20 : f20 vs = some (.inr (7, [.ref nu, .ref no, .ref ye, .ref ni, .ref al, .ref ga])) := hfr2.at hvs (fun z => ga_Mn hpa _ z pvs)
          have hfr : gh_fr f f20 (fun b => b ∈ ([ga, k, i] : List Nat)) := hfr.tr hfr2 (fun _ _ _ z => z)
          refine lv_aload_n hx hb d_Vs_sum_140 rfl (lv_at hl 0 rfl) ?_
          refine gh_get C V h_vs_f20 gc_Vs gi_Vs 5 (by decide) f_Vs_40 rfl rfl d_Vs_sum_141 ?_
          refine lv_aload_n hx hb d_Vs_sum_144 rfl (lv_at hl 1 rfl) ?_
          have hgu := hgR
          obtain ⟨_, _, gku22, giu22, Ku22, Bu22, hau22, -⟩ := hgu
          refine gh_callV C V hl.1 m_Ga_putAll l_Vs_65 (c_Ga_putAll l E _ f20 P ga k i [] [] x X hgR rfl (hX.keep hfr (ga_Mn hpa)) hqX) rfl hau22 gc_Ga ⟨by first | decide | omega | (dsimp only; omega), by first | decide | omega | (dsimp only; omega)⟩ ⟨by first | decide | omega | (dsimp only; omega), by first | decide | omega | (dsimp only; omega)⟩ (Nat.le_of_ble_eq_true rfl) rfl d_Vs_sum_145 (fun r f21 H locs hp V => ?_)
          cases hs23 : vt_pa X (vt_c X) 0 ([], []) with
          | none =>
            rw [hs23] at hp
            obtain ⟨rfl, hg0_, hfr2⟩ := hp
            have h_vs_f21 : f21 vs = some (.inr (7, [.ref nu, .ref no, .ref ye, .ref ni, .ref al, .ref ga])) := hfr2.at h_vs_f20 (fun z => ga_Mn hpa _ z pvs)
            have hfr : gh_fr f f21 (fun b => b ∈ ([ga, k, i] : List Nat)) := hfr.tr hfr2 (fun _ _ _ z => z)
            refine W.eq (g2 := F0 m 148 ls [.int 0]) rfl ?_
            refine lv_if_eq (tgt := 173) hx hb d_Vs_sum_148 (by decide) (fun c24 => ?_) (fun c24 => absurd (by decide) c24)
            refine lv_null hx hb d_Vs_sum_173 ?_
            refine gh_reta hAe C V hr (by first | exact Or.inl ⟨_, rfl⟩ | exact Or.inr ⟨_, rfl⟩) (by first | exact Or.inl rfl | exact Or.inr ⟨_, rfl⟩) hlocks d_Vs_sum_174 (by first | decide | omega | (dsimp only; omega)) (by first | decide | omega | (dsimp only; omega)) ?_
            have hsm : vt_sum X Y = vt_jo X Y := by unfold vt_sum; rw [if_neg (by omega), if_neg (by omega), if_pos (by omega), if_neg (by omega), if_neg (by omega), if_neg (by omega), if_pos hk]
            rw [hsm]
            exact ⟨by simp only [vt_jo, hs23]; exact rfl, hg0_, hfr⟩
          | some s23 =>
            rw [hs23] at hp
            obtain ⟨rfl, hgs23, hfr2⟩ := hp
            have h_vs_f21 : f21 vs = some (.inr (7, [.ref nu, .ref no, .ref ye, .ref ni, .ref al, .ref ga])) := hfr2.at h_vs_f20 (fun z => ga_Mn hpa _ z pvs)
            have hfr : gh_fr f f21 (fun b => b ∈ ([ga, k, i] : List Nat)) := hfr.tr hfr2 (fun _ _ _ z => z)
            have hln_s23 : s23.1.length = s23.2.length := vt_pa_len hs23 rfl
            refine W.eq (g2 := F0 m 148 ls [.int 1]) rfl ?_
            refine lv_if_eq (tgt := 173) hx hb d_Vs_sum_148 (by decide) (fun c25 => absurd c25 (by decide)) (fun c25 => ?_)
            refine lv_aload_n hx hb d_Vs_sum_151 rfl (lv_at hl 0 rfl) ?_
            refine gh_get C V h_vs_f21 gc_Vs gi_Vs 5 (by decide) f_Vs_40 rfl rfl d_Vs_sum_152 ?_
            refine lv_aload_n hx hb d_Vs_sum_155 rfl (lv_at hl 2 rfl) ?_
            have hgu := hgs23
            obtain ⟨_, _, gku27, giu27, Ku27, Bu27, hau27, -⟩ := hgu
            refine gh_callV C V hl.1 m_Ga_putAll l_Vs_65 (c_Ga_putAll l E _ f21 P ga k i s23.1 s23.2 y Y hgs23 hln_s23 (hY.keep hfr (ga_Mn hpa)) hqY) rfl hau27 gc_Ga ⟨by first | decide | omega | (dsimp only; omega), by first | decide | omega | (dsimp only; omega)⟩ ⟨by first | decide | omega | (dsimp only; omega), by first | decide | omega | (dsimp only; omega)⟩ (Nat.le_of_ble_eq_true rfl) rfl d_Vs_sum_156 (fun r f26 H locs hp V => ?_)
            cases hs28 : vt_pa Y (vt_c Y) 0 (s23.1, s23.2) with
            | none =>
              rw [hs28] at hp
              obtain ⟨rfl, hg0_, hfr2⟩ := hp
              have h_vs_f26 : f26 vs = some (.inr (7, [.ref nu, .ref no, .ref ye, .ref ni, .ref al, .ref ga])) := hfr2.at h_vs_f21 (fun z => ga_Mn hpa _ z pvs)
              have hfr : gh_fr f f26 (fun b => b ∈ ([ga, k, i] : List Nat)) := hfr.tr hfr2 (fun _ _ _ z => z)
              refine W.eq (g2 := F0 m 159 ls [.int 0]) rfl ?_
              refine lv_if_eq (tgt := 173) hx hb d_Vs_sum_159 (by decide) (fun c29 => ?_) (fun c29 => absurd (by decide) c29)
              refine lv_null hx hb d_Vs_sum_173 ?_
              refine gh_reta hAe C V hr (by first | exact Or.inl ⟨_, rfl⟩ | exact Or.inr ⟨_, rfl⟩) (by first | exact Or.inl rfl | exact Or.inr ⟨_, rfl⟩) hlocks d_Vs_sum_174 (by first | decide | omega | (dsimp only; omega)) (by first | decide | omega | (dsimp only; omega)) ?_
              have hsm : vt_sum X Y = vt_jo X Y := by unfold vt_sum; rw [if_neg (by omega), if_neg (by omega), if_pos (by omega), if_neg (by omega), if_neg (by omega), if_neg (by omega), if_pos hk]
              rw [hsm]
              exact ⟨by simp only [vt_jo, hs23, hs28]; exact rfl, hg0_, hfr⟩
            | some s28 =>
              rw [hs28] at hp
              obtain ⟨rfl, hgs28, hfr2⟩ := hp
              have h_vs_f26 : f26 vs = some (.inr (7, [.ref nu, .ref no, .ref ye, .ref ni, .ref al, .ref ga])) := hfr2.at h_vs_f21 (fun z => ga_Mn hpa _ z pvs)
              have hfr : gh_fr f f26 (fun b => b ∈ ([ga, k, i] : List Nat)) := hfr.tr hfr2 (fun _ _ _ z => z)
              have hln_s28 : s28.1.length = s28.2.length := vt_pa_len hs28 hln_s23
              refine W.eq (g2 := F0 m 159 ls [.int 1]) rfl ?_
              refine lv_if_eq (tgt := 173) hx hb d_Vs_sum_159 (by decide) (fun c30 => absurd c30 (by decide)) (fun c30 => ?_)
              refine lv_aload_n hx hb d_Vs_sum_162 rfl (lv_at hl 0 rfl) ?_
              refine lv_aload_n hx hb d_Vs_sum_163 rfl (lv_at hl 0 rfl) ?_
              refine gh_get C V h_vs_f26 gc_Vs gi_Vs 5 (by decide) f_Vs_40 rfl rfl d_Vs_sum_164 ?_
              refine gh_callV C V hl.1 m_Vs_object l_Vs_73 (c_Vs_object l E _ f26 P vs nu no ye ni al ga ga k i s28.1 s28.2 (hV.keep hfr (ga_Mn hpa)) (fun q h => hP q (hfr.non h)) hgs28 hln_s28) rfl h_vs_f26 gc_Vs ⟨by first | decide | omega | (dsimp only; omega), by first | decide | omega | (dsimp only; omega)⟩ ⟨by first | decide | omega | (dsimp only; omega), by first | decide | omega | (dsimp only; omega)⟩ (Nat.le_of_ble_eq_true rfl) rfl d_Vs_sum_167 (fun r f31 H locs hp V => ?_)
              obtain ⟨hva, hfr2⟩ := hp
              have hg9 := (hgs28.keep hfr2 (fun _ z => absurd z (by simp)) (by simp) (by simp) (by simp)).raw
              have hfr : gh_fr f f31 (fun b => b ∈ ([ga, k, i] : List Nat)) := hfr.tr hfr2 (fun _ _ _ z => absurd z (by simp))
              cases hmk : vt_mk 6 s28.1 s28.2 with
              | none =>
                rw [hmk] at hva
                have hva : r = some .null := hva
                subst hva
                refine W.eq (g2 := F0 m 170 ls [.null]) rfl ?_
                refine lv_goto (tgt := 174) hx hb d_Vs_sum_170 (by decide) ?_
                refine gh_reta hAe C V hr (by first | exact Or.inl ⟨_, rfl⟩ | exact Or.inr ⟨_, rfl⟩) (by first | exact Or.inl rfl | exact Or.inr ⟨_, rfl⟩) hlocks d_Vs_sum_174 (by first | decide | omega | (dsimp only; omega)) (by first | decide | omega | (dsimp only; omega)) ?_
                have hsm : vt_sum X Y = vt_jo X Y := by unfold vt_sum; rw [if_neg (by omega), if_neg (by omega), if_pos (by omega), if_neg (by omega), if_neg (by omega), if_neg (by omega), if_pos hk]
                rw [hsm]
                exact ⟨by simp only [vt_jo, hs23, hs28, hmk]; exact rfl, hg9, hfr⟩
              | some M9 =>
                rw [hmk] at hva
                obtain ⟨b9, rfl, hb9⟩ := hva
                refine W.eq (g2 := F0 m 170 ls [.ref b9]) rfl ?_
                refine lv_goto (tgt := 174) hx hb d_Vs_sum_170 (by decide) ?_
                refine gh_reta hAe C V hr (by first | exact Or.inl ⟨_, rfl⟩ | exact Or.inr ⟨_, rfl⟩) (by first | exact Or.inl rfl | exact Or.inr ⟨_, rfl⟩) hlocks d_Vs_sum_174 (by first | decide | omega | (dsimp only; omega)) (by first | decide | omega | (dsimp only; omega)) ?_
                have hsm : vt_sum X Y = vt_jo X Y := by unfold vt_sum; rw [if_neg (by omega), if_neg (by omega), if_pos (by omega), if_neg (by omega), if_neg (by omega), if_neg (by omega), if_pos hk]
                rw [hsm]
                exact ⟨by simp only [vt_jo, hs23, hs28, hmk]; exact ⟨_, rfl, hb9⟩, hg9, hfr⟩
      · have c5 : ¬ (vt_k X) = (vt_k Y) := by rw [← gq_eq (a := vt_k X) (b := vt_k Y) (by omega) (by omega)]; exact c5
        refine lv_null hx hb d_Vs_sum_29 ?_
        refine gh_reta hAe C V hr (by first | exact Or.inl ⟨_, rfl⟩ | exact Or.inr ⟨_, rfl⟩) (by first | exact Or.inl rfl | exact Or.inr ⟨_, rfl⟩) hlocks d_Vs_sum_30 (by first | decide | omega | (dsimp only; omega)) (by first | decide | omega | (dsimp only; omega)) ?_
        exact ⟨by unfold vt_sum; rw [if_neg c3, if_neg c4, if_neg c5]; exact rfl, hg, hfr⟩
    · have c4 : (vt_k Y) = 0 := by rw [← gq_eq (a := vt_k Y) (b := 0) (by omega) (by omega)]; exact c4
      refine lv_aload_n hx hb d_Vs_sum_16 rfl (lv_at hl 1 rfl) ?_
      refine gh_reta hAe C V hr (by first | exact Or.inl ⟨_, rfl⟩ | exact Or.inr ⟨_, rfl⟩) (by first | exact Or.inl rfl | exact Or.inr ⟨_, rfl⟩) hlocks d_Vs_sum_17 (by first | decide | omega | (dsimp only; omega)) (by first | decide | omega | (dsimp only; omega)) ?_
      exact ⟨by unfold vt_sum; rw [if_neg c3, if_pos c4]; exact ⟨_, rfl, hX⟩, hg, hfr⟩
  · have c3 : (vt_k X) = 0 := by rw [← gq_eq (a := vt_k X) (b := 0) (by omega) (by omega)]; exact c3
    refine lv_aload_n hx hb d_Vs_sum_7 rfl (lv_at hl 2 rfl) ?_
    refine gh_reta hAe C V hr (by first | exact Or.inl ⟨_, rfl⟩ | exact Or.inr ⟨_, rfl⟩) (by first | exact Or.inl rfl | exact Or.inr ⟨_, rfl⟩) hlocks d_Vs_sum_8 (by first | decide | omega | (dsimp only; omega)) (by first | decide | omega | (dsimp only; omega)) ?_
    exact ⟨by unfold vt_sum; rw [if_pos c3]; exact ⟨_, rfl, hY⟩, hg, hfr⟩
