/-! Where the law's loop begins: the machine, with roles. -/
theorem rl_b0 {fR fU fN : gh_F} {x : Nat} (h1 : fR x ≠ none) (h2 : fU x ≠ none) (h3 : fN x ≠ none) : rl_b fR fU fN x = 0 := by unfold rl_b; rw [if_neg h1, if_neg h2, if_neg h3]
theorem rl_b1 {fR fU fN : gh_F} {x : Nat} (h1 : fR x = none) (h2 : fU x ≠ none) (h3 : fN x ≠ none) : rl_b fR fU fN x = 1 := by unfold rl_b; rw [if_pos h1, if_neg h2, if_neg h3]
theorem rl_b2 {fR fU fN : gh_F} {x : Nat} (h1 : fR x = none) (h2 : fU x = none) (h3 : fN x ≠ none) : rl_b fR fU fN x = 2 := by unfold rl_b; rw [if_pos h1, if_pos h2, if_neg h3]
theorem rl_b3 {fR fU fN : gh_F} {x : Nat} (h1 : fR x = none) (h2 : fU x = none) (h3 : fN x = none) : rl_b fR fU fN x = 3 := by unfold rl_b; rw [if_pos h1, if_pos h2, if_pos h3]
theorem rl_ex {h k : gh_F} {x : Nat} {e : va_E} (d : dm h k) (hx : h x = some e) : k x ≠ none := fun z => by rw [d _ z] at hx; cases hx
theorem rl_gs {E : gh_E} {f0 f1 : gh_F} {g : Nat → Option Nat} {n : Nat} {X K I : Nat → Nat} (h : gh_Gs E f0 f1 g n X K I) {i j : Nat} (hi : i < n) (hj : j < n) : K i ≠ I j := by
  rcases Nat.lt_trichotomy i j with h1 | h1 | h1
  · exact (h.2 i j h1 hj).2.2.2.1
  · subst h1; exact (h.1 i hi).2.2.2.2.2.2.2
  · exact fun z => (h.2 j i h1 hi).2.2.2.2 z.symm
set_option maxHeartbeats 4000000 in
set_option maxRecDepth 100000 in
theorem rl_start {E : gh_E} {f0 g1 g4 : gh_F} {a mm oa : Nat} {ad : Nat → Nat} (hI : qi_P E f0 g1 a) (h41 : gh_fr g1 g4 (fun _ => False)) (hm1 : g1 mm = none) (had1 : ∀ k, k < 60 → mo_K k < 8 → g1 (ad k) = none) (ho1 : g1 oa = none) (hm4 : g4 mm ≠ none) (had4 : ∀ k, k < 60 → mo_K k < 8 → g4 (ad k) ≠ none) (hom : oa ≠ mm) (hoa : ∀ k, k < 60 → mo_K k < 8 → oa ≠ ad k) (ho4 : g4 oa = some (.inl (E.2.2.1 1, 1, .inr (.inl (fun _ => 0))))) : ∃ (ρ Z : Nat → Nat) (nu : Nat), Z 6 = a ∧ Z 18 = oa ∧ ρ mm = 300 ∧ (∀ k, k < 60 → mo_K k < 8 → ρ (ad k) = 300) ∧ qf_A E ρ Z g4 (fun _ => 0) 0 (-1) nu (vt_0 0) 12 15 1 (va_up (fun _ => 0) 0 0) (fun _ => 0) 0 (fun _ => 0) (fun _ => 0) 0 (-1) [] := by
  obtain ⟨fV, f1V, fR, f1R, fW, f1W, fU, f1U, fD, f1P, fN, f1N, vs, nu, re, wr, ru, dq, nq, tx, ca, ctx, ⟨hVs, hRe, hWr, hRu, hQd, hQn⟩, ⟨wV, wR, wW, wU, wP, wN⟩, ⟨d1, d2, d3, d4, d5, d6, d7, d8, d9, d10, d11, d12⟩, aV, txR, txV, nqP, neV, neR, neW, neU, neD, neN⟩ := hI
  obtain ⟨ni, no, ye, al, ga, kV, iV, gA, XL, KL, ⟨n1, n2, n3, n4, n5, n6, n7, n8⟩, kiV, cvs, cni, cnu, cno, cye, cal, hLs, cga, ckV, ciV⟩ := hVs
  obtain ⟨gaR, lt, gR, XR, KR, IR, m1, m2, -, cre, cgaR, clt, hGR⟩ := hRe
  obtain ⟨dg, m3, cwr, cdg⟩ := hWr
  obtain ⟨st, gaU, po, gS, gU, XS, XU, KU, IU, m4, m5, m6, -, -, -, cru, cst, cgaU, cpo, hSs, hGU, hpo⟩ := hRu
  obtain ⟨kD, iD, m7, m8, -, cdq, ckD, ciD⟩ := hQd
  obtain ⟨kN, iN, m9, m10, -, cnq, ckN, ciN⟩ := hQn
  have dVR : dm fV fR := d1.tr d2
  have dRU : dm fR fU := d3.tr (d4.tr (d5.tr d6))
  have dUN : dm fU fN := d7.tr (d8.tr (d9.tr d10))
  have dUD : dm fU fD := d7.tr d8
  have dVW : dm fV fW := dVR.tr (d3.tr d4)
  have dVU : dm fV fU := dVR.tr dRU
  have dVD : dm fV fD := dVU.tr dUD
  have dVN : dm fV fN := dVU.tr dUN
  have up : ∀ {h : gh_F} {x : Nat} {e : va_E}, gh_fr h g1 (fun b => b ∈ ([a] : List Nat)) → h x = some e → x ≠ a → g1 x = some e := fun w hx hn => w.at hx (fun z => hn (List.mem_singleton.mp z))
  have na : ∀ {h : gh_F} {x : Nat}, dm fV h → h x = none → x ≠ a := fun d hx z => aV (d _ (by rw [← z]; exact hx))
  have dVV : dm fV fV := fun _ h => h
  -- the cells
  have bvs := up wV cvs neV.symm
  have bni := up wV cni (na dVV n1)
  have bnu := up wV cnu (na dVV n2)
  have bno := up wV cno (na dVV n3)
  have bye := up wV cye (na dVV n4)
  have bal := up wV cal (na dVV n5)
  have bga := up wV cga (na dVV n6)
  have bkV := up wV ckV (na dVV n7)
  have biV := up wV ciV (na dVV n8)
  have bre := up wR cre neR.symm
  have bgaR := up wR cgaR (na dVR m1)
  have blt := up wR clt (na dVR m2)
  have bwr := up wW cwr neW.symm
  have bdg := up wW cdg (na dVW m3)
  have bru := up wU cru neU.symm
  have bst := up wU cst (na dVU m4)
  have bgaU := up wU cgaU (na dVU m5)
  have bpo := up wU cpo (na dVU m6)
  have bdq := up wP cdq neD.symm
  have bkD := up wP ckD (na dVD m7)
  have biD := up wP ciD (na dVD m8)
  have bnq := up wN cnq neN.symm
  have bkN := up wN ckN (na dVN m9)
  have biN := up wN ciN (na dVN m10)
  have bXL : ∀ j, j < 26 → g1 (XL j) = some (.inr (6, [.int 4, .long 0, .ref (KL j), .ref ni, .ref ni, .int 1, .int 0])) := fun j hj => up wV (hLs.1 j hj).2.1 (na dVV (hLs.1 j hj).2.2.2.1)
  have bKL : ∀ j, j < 26 → g1 (KL j) = some (.inl (E.2.2.1 2, 1, .inl (upd (fun _ => 0) 0 (nI (97 + j))))) := fun j hj => up wV (hLs.1 j hj).2.2.1 (na dVV (hLs.1 j hj).2.2.2.2)
  have bXR : ∀ j, j < 8 → g1 (XR j) = some (.inr (1, [.ref (KR j), .ref (IR j), .int 0])) := fun j hj => up wR (hGR.1 j hj).2.1 (na dVR (hGR.1 j hj).2.2.2.2.1)
  have bKR : ∀ j, j < 8 → g1 (KR j) = some (gh_A16 E) := fun j hj => up wR (hGR.1 j hj).2.2.1 (na dVR (hGR.1 j hj).2.2.2.2.2.1)
  have bIR : ∀ j, j < 8 → g1 (IR j) = some (gh_A16 E) := fun j hj => up wR (hGR.1 j hj).2.2.2.1 (na dVR (hGR.1 j hj).2.2.2.2.2.2.1)
  have bXU : ∀ j, j < 12 → g1 (XU j) = some (.inr (1, [.ref (KU j), .ref (IU j), .int 0])) := fun j hj => up wU (hGU.1 j hj).2.1 (na dVU (hGU.1 j hj).2.2.2.2.1)
  have bKU : ∀ j, j < 12 → g1 (KU j) = some (gh_A16 E) := fun j hj => up wU (hGU.1 j hj).2.2.1 (na dVU (hGU.1 j hj).2.2.2.2.2.1)
  have bIU : ∀ j, j < 12 → g1 (IU j) = some (gh_A16 E) := fun j hj => up wU (hGU.1 j hj).2.2.2.1 (na dVU (hGU.1 j hj).2.2.2.2.2.2.1)
  have bXS : ∀ j, j < 250 → g1 (XS j) = some gh_S0 := fun j hj => up wU (hSs.1 j hj).2.1 (na dVU (hSs.1 j hj).2.2)
  -- the addresses by case
  obtain ⟨A, hAd⟩ : ∃ A : Nat → Nat → Nat, A = rl_A [ru, po, ga, kV, iV, a, tx, re, lt, wr, dg, dq, kD, iD, nq, kN, iN, oa, vs, nu, no, ye, ni, al, st, gaU, gaR] XR KR IR XU KU IU XS := ⟨_, rfl⟩
  have hS1 : ∀ c d, c < 25 → c ≠ 17 → d < rn c → rl_s g1 (A c d) = rl_S.getD c 0 := by
    intro c d hc hn hd
    rw [hAd]
    rcases (show c = 0 ∨ c = 1 ∨ c = 2 ∨ c = 3 ∨ c = 4 ∨ c = 5 ∨ c = 6 ∨ c = 7 ∨ c = 8 ∨ c = 9 ∨ c = 10 ∨ c = 11 ∨ c = 12 ∨ c = 13 ∨ c = 14 ∨ c = 15 ∨ c = 16 ∨ c = 18 ∨ c = 19 ∨ c = 20 ∨ c = 21 ∨ c = 22 ∨ c = 23 ∨ c = 24 by omega) with rfl | rfl | rfl | rfl | rfl | rfl | rfl | rfl | rfl | rfl | rfl | rfl | rfl | rfl | rfl | rfl | rfl | rfl | rfl | rfl | rfl | rfl | rfl | rfl
    · exact (show rl_s g1 ru = 4 from rl_so bru)
    · exact (show rl_s g1 po = 100 + 16 from rl_sa (x := (16, _)) bpo)
    · exact (show rl_s g1 ga = 1 from rl_so bga)
    · exact (show rl_s g1 kV = 100 + 16 from rl_sa (x := (16, _)) bkV)
    · exact (show rl_s g1 iV = 100 + 16 from rl_sa (x := (16, _)) biV)
    · exact (show rl_s g1 a = 0 from rl_so ca)
    · exact (show rl_s g1 tx = 100 + 120 from rl_sa (x := (120, _)) ctx)
    · exact (show rl_s g1 re = 3 from rl_so bre)
    · exact (show rl_s g1 lt = 100 + 24 from rl_sa (x := (24, _)) blt)
    · exact (show rl_s g1 wr = 8 from rl_so bwr)
    · exact (show rl_s g1 dg = 100 + 19 from rl_sa (x := (19, _)) bdg)
    · exact (show rl_s g1 dq = 2 from rl_so bdq)
    · exact (show rl_s g1 kD = 100 + 60 from rl_sa (x := (60, _)) bkD)
    · exact (show rl_s g1 iD = 100 + 180 from rl_sa (x := (180, _)) biD)
    · exact (show rl_s g1 nq = 2 from rl_so bnq)
    · exact (show rl_s g1 kN = 100 + 60 from rl_sa (x := (60, _)) bkN)
    · exact (show rl_s g1 iN = 100 + 180 from rl_sa (x := (180, _)) biN)
    · exact (show rl_s g1 (XR d) = 1 from rl_so (bXR d hd))
    · exact (show rl_s g1 (KR d) = 100 + 16 from rl_sa (x := (16, _)) (bKR d hd))
    · exact (show rl_s g1 (IR d) = 100 + 16 from rl_sa (x := (16, _)) (bIR d hd))
    · exact (show rl_s g1 (XU d) = 1 from rl_so (bXU d hd))
    · exact (show rl_s g1 (KU d) = 100 + 16 from rl_sa (x := (16, _)) (bKU d hd))
    · exact (show rl_s g1 (IU d) = 100 + 16 from rl_sa (x := (16, _)) (bIU d hd))
    · exact (show rl_s g1 (XS d) = 5 from rl_so (bXS d hd))
  have s99 : ∀ c, c < 25 → rl_S.getD c 0 ≠ 99 := by decide +kernel
  have ex1 : ∀ c d, c < 25 → c ≠ 17 → d < rn c → g1 (A c d) ≠ none := fun c d hc hn hd z => by
    have h := hS1 c d hc hn hd
    unfold rl_s at h
    rw [z] at h
    exact s99 c hc h.symm
  have g4e : ∀ x, g1 x ≠ none → g4 x = g1 x := fun x hx => by
    cases hc : g1 x with
    | none => exact absurd hc hx
    | some e => exact h41.at hc (fun z => z)
  have A17 : ∀ d, A 17 d = oa := fun d => by rw [hAd]; rfl
  have hS : ∀ c d, c < 25 → d < rn c → rl_s g4 (A c d) = rl_S.getD c 0 := fun c d hc hd => by
    by_cases h17 : c = 17
    · subst h17
      rw [A17]
      exact (show rl_s g4 oa = 100 + 1 from rl_sa (x := (1, _)) ho4)
    · rw [← hS1 c d hc h17 hd]
      unfold rl_s
      rw [g4e _ (ex1 c d hc h17 hd)]
  have hB : ∀ c d, c < 25 → d < rn c → rl_B.getD c 0 ≠ 9 → rl_b fR fU fN (A c d) = rl_B.getD c 0 := by
    intro c d hc hd h9
    have hV : ∀ {x : Nat} {e : va_E}, f1V x = some e → rl_b fR fU fN x = 0 := fun h => rl_b0 (rl_ex d2 h) (rl_ex (d2.tr dRU) h) (rl_ex (d2.tr (dRU.tr dUN)) h)
    have hR : ∀ {x : Nat} {e : va_E}, fR x = none → f1R x = some e → rl_b fR fU fN x = 1 := fun h0 h => rl_b1 h0 (rl_ex (d4.tr (d5.tr d6)) h) (rl_ex ((d4.tr (d5.tr d6)).tr dUN) h)
    have hU : ∀ {x : Nat} {e : va_E}, fU x = none → f1U x = some e → rl_b fR fU fN x = 2 := fun h0 h => rl_b2 (dRU _ h0) h0 (rl_ex (d8.tr (d9.tr d10)) h)
    have hD : ∀ {x : Nat} {e : va_E}, fD x = none → f1P x = some e → rl_b fR fU fN x = 2 := fun h0 h => rl_b2 (dRU _ (dUD _ h0)) (dUD _ h0) (rl_ex d10 h)
    have hN : ∀ {x : Nat}, fN x = none → rl_b fR fU fN x = 3 := fun h0 => rl_b3 (dRU _ (dUN _ h0)) (dUN _ h0) h0
    rw [hAd]
    rcases (show c = 0 ∨ c = 1 ∨ c = 2 ∨ c = 3 ∨ c = 4 ∨ c = 5 ∨ c = 6 ∨ c = 7 ∨ c = 8 ∨ c = 9 ∨ c = 10 ∨ c = 11 ∨ c = 12 ∨ c = 13 ∨ c = 14 ∨ c = 15 ∨ c = 16 ∨ c = 17 ∨ c = 18 ∨ c = 19 ∨ c = 20 ∨ c = 21 ∨ c = 22 ∨ c = 23 ∨ c = 24 by omega) with rfl | rfl | rfl | rfl | rfl | rfl | rfl | rfl | rfl | rfl | rfl | rfl | rfl | rfl | rfl | rfl | rfl | rfl | rfl | rfl | rfl | rfl | rfl | rfl | rfl
    · exact absurd rfl h9
    · exact hU m6 cpo
    · exact hV cga
    · exact hV ckV
    · exact hV ciV
    · exact absurd rfl h9
    · exact absurd rfl h9
    · exact absurd rfl h9
    · exact absurd rfl h9
    · exact absurd rfl h9
    · exact absurd rfl h9
    · exact absurd rfl h9
    · exact hD m7 ckD
    · exact hD m8 ciD
    · exact absurd rfl h9
    · exact hN m9
    · exact hN m10
    · exact absurd rfl h9
    · exact hR (hGR.1 d hd).2.2.2.2.1 (hGR.1 d hd).2.1
    · exact hR (hGR.1 d hd).2.2.2.2.2.1 (hGR.1 d hd).2.2.1
    · exact hR (hGR.1 d hd).2.2.2.2.2.2.1 (hGR.1 d hd).2.2.2.1
    · exact hU (hGU.1 d hd).2.2.2.2.1 (hGU.1 d hd).2.1
    · exact hU (hGU.1 d hd).2.2.2.2.2.1 (hGU.1 d hd).2.2.1
    · exact hU (hGU.1 d hd).2.2.2.2.2.2.1 (hGU.1 d hd).2.2.2.1
    · exact absurd rfl h9
  have hT : ∀ c c2 d e, (c, c2) ∈ rl_T → d < rn c → e < rn c2 → A c d ≠ A c2 e := by
    intro c c2 d e h hd he
    rw [hAd]
    simp only [rl_T, List.mem_cons, Prod.mk.injEq, List.not_mem_nil, or_false] at h
    rcases h with ⟨rfl, rfl⟩ | ⟨rfl, rfl⟩ | ⟨rfl, rfl⟩ | ⟨rfl, rfl⟩ | ⟨rfl, rfl⟩ | ⟨rfl, rfl⟩
    · exact kiV
    · exact (fun z : dq = nq => by rw [z, nqP] at cdq; cases cdq)
    · exact rl_gs hGR hd he
    · exact fun z => (hpo e he).1 z.symm
    · exact fun z => (hpo e he).2 z.symm
    · exact rl_gs hGU hd he
  have hJ : ∀ c d e, 18 ≤ c → c < 25 → d < e → e < rn c → A c d ≠ A c e := by
    intro c d e h1 h2 h3 h4
    rw [hAd]
    rcases (show c = 18 ∨ c = 19 ∨ c = 20 ∨ c = 21 ∨ c = 22 ∨ c = 23 ∨ c = 24 by omega) with rfl | rfl | rfl | rfl | rfl | rfl | rfl
    · exact (hGR.2 d e h3 h4).1
    · exact (hGR.2 d e h3 h4).2.1
    · exact (hGR.2 d e h3 h4).2.2.1
    · exact (hGU.2 d e h3 h4).1
    · exact (hGU.2 d e h3 h4).2.1
    · exact (hGU.2 d e h3 h4).2.2.1
    · exact hSs.2 d e h3 h4
  obtain ⟨Z, hZ⟩ : ∃ Z : Nat → Nat, Z = fun r => A (rc r) (rd r) := ⟨_, rfl⟩
  have hZr : ∀ r, Z r = A (rc r) (rd r) := fun r => by rw [hZ]
  have hinj : ∀ r r2, rU r → rU r2 → Z r = Z r2 → r = r2 := fun r r2 h1 h2 h => by
    rw [hZr, hZr] at h
    have k1 := rk_rc h1
    have k2 := rk_rc h2
    obtain ⟨e1, e2⟩ := rl_inj hS hB hT hJ k1.2 (rd_rn h1) k2.2 (rd_rn h2) h
    rw [← k1.1, ← k2.1, e1, e2]
  have hmz : ∀ r, rU r → ¬ mo_M mm ad (Z r) := fun r hr z => by
    rw [hZr] at z
    have k1 := rk_rc hr
    by_cases h17 : rc r = 17
    · rw [h17, A17] at z
      rcases z with z | ⟨k, hk, h8, z⟩
      · exact hom z
      · exact hoa k hk h8 z
    · have h1 := ex1 (rc r) (rd r) k1.2 h17 (rd_rn hr)
      rcases z with z | ⟨k, hk, h8, z⟩
      · exact h1 (by rw [z]; exact hm1)
      · exact h1 (by rw [z]; exact had1 k hk h8)
  have hmg : ∀ x, mo_M mm ad x → g4 x ≠ none := fun x hx => by
    rcases hx with rfl | ⟨k, hk, h8, rfl⟩
    · exact hm4
    · exact had4 k hk h8
  have hzg : ∀ r, rU r → g4 (Z r) ≠ none := fun r hr z => by
    rw [hZr] at z
    have h := hS (rc r) (rd r) (rk_rc hr).2 (rd_rn hr)
    unfold rl_s at h
    rw [z] at h
    exact s99 _ (rk_rc hr).2 h.symm
  obtain ⟨ρ, hρ, hρm, hρ0, hρn⟩ := rl_make (g := g4) hinj hmz hmg hzg
  -- what is never written
  have z1 : ∀ x v, rl_s g1 x = v → v ≠ 99 → (∀ c, c < 25 → c ≠ 17 → rl_S.getD c 0 ≠ v) → ρ x = 0 := fun x v hx h99 hv => by
    have hx1 : g1 x ≠ none := fun z => h99 (by rw [← hx]; unfold rl_s; rw [z])
    refine hρ0 x (fun z => ?_) (fun r hr z => ?_)
    · rcases z with z | ⟨k, hk, h8, z⟩
      · exact hx1 (by rw [z]; exact hm1)
      · exact hx1 (by rw [z]; exact had1 k hk h8)
    · rw [hZr] at z
      have k1 := rk_rc hr
      by_cases h17 : rc r = 17
      · rw [h17, A17] at z
        exact hx1 (by rw [← z]; exact ho1)
      · exact hv (rc r) k1.2 h17 (by rw [← hS1 _ _ k1.2 h17 (rd_rn hr), z, hx])
  have p7 : ρ vs = 0 := z1 vs 7 (rl_so bvs) (by decide) (by decide +kernel)
  have pni : ρ ni = 0 := z1 ni 100 (rl_sa (x := (0, _)) bni) (by decide) (by decide +kernel)
  have pnu : ρ nu = 0 := z1 nu 6 (rl_so bnu) (by decide) (by decide +kernel)
  have pno : ρ no = 0 := z1 no 6 (rl_so bno) (by decide) (by decide +kernel)
  have pye : ρ ye = 0 := z1 ye 6 (rl_so bye) (by decide) (by decide +kernel)
  have pal : ρ al = 0 := z1 al 126 (rl_sa (x := (26, _)) bal) (by decide) (by decide +kernel)
  have pst : ρ st = 0 := z1 st 350 (rl_sa (x := (250, _)) bst) (by decide) (by decide +kernel)
  have pgaU : ρ gaU = 0 := z1 gaU 112 (rl_sa (x := (12, _)) bgaU) (by decide) (by decide +kernel)
  have pgaR : ρ gaR = 0 := z1 gaR 108 (rl_sa (x := (8, _)) bgaR) (by decide) (by decide +kernel)
  have pXL : ∀ j, j < 26 → ρ (XL j) = 0 := fun j hj => z1 _ 6 (rl_so (bXL j hj)) (by decide) (by decide +kernel)
  have pKL : ∀ j, j < 26 → ρ (KL j) = 0 := fun j hj => z1 _ 101 (rl_sa (x := (1, _)) (bKL j hj)) (by decide) (by decide +kernel)
  have go : ∀ {x : Nat} {e : va_E}, g1 x = some e → g4 x = some e := fun h => h41.at h (fun z => z)
  -- roles and addresses
  have zs : ∀ r, Z r = rl_A [ru, po, ga, kV, iV, a, tx, re, lt, wr, dg, dq, kD, iD, nq, kN, iN, oa, vs, nu, no, ye, ni, al, st, gaU, gaR] XR KR IR XU KU IU XS (rc r) (rd r) := fun r => by rw [hZr, hAd]
  have z100 : ∀ d, d < 8 → Z (100 + 3 * d) = XR d ∧ Z (101 + 3 * d) = KR d ∧ Z (102 + 3 * d) = IR d := fun d hd => by
    have e0 := rc_3 (t := 0) hd (by decide)
    have e1 := rc_3 (t := 1) hd (by decide)
    have e2 := rc_3 (t := 2) hd (by decide)
    refine ⟨?_, ?_, ?_⟩
    · rw [zs, show rc (100 + 3 * d) = 18 from e0.1, show rd (100 + 3 * d) = d from e0.2]; rfl
    · rw [zs, show rc (101 + 3 * d) = 19 from e1.1, show rd (101 + 3 * d) = d from e1.2]; rfl
    · rw [zs, show rc (102 + 3 * d) = 20 from e2.1, show rd (102 + 3 * d) = d from e2.2]; rfl
  have z130 : ∀ d, d < 12 → Z (130 + 3 * d) = XU d ∧ Z (131 + 3 * d) = KU d ∧ Z (132 + 3 * d) = IU d := fun d hd => by
    have e0 := rc_4 (t := 0) hd (by decide)
    have e1 := rc_4 (t := 1) hd (by decide)
    have e2 := rc_4 (t := 2) hd (by decide)
    refine ⟨?_, ?_, ?_⟩
    · rw [zs, show rc (130 + 3 * d) = 21 from e0.1, show rd (130 + 3 * d) = d from e0.2]; rfl
    · rw [zs, show rc (131 + 3 * d) = 22 from e1.1, show rd (131 + 3 * d) = d from e1.2]; rfl
    · rw [zs, show rc (132 + 3 * d) = 23 from e2.1, show rd (132 + 3 * d) = d from e2.2]; rfl
  have z1000 : ∀ j, Z (1000 + j) = XS j := fun j => by
    rw [zs, (rc_5 (j := j)).1, (rc_5 (j := j)).2]; rfl
  have y1 : Z 1 = ru := zs 1
  have y2 : Z 2 = po := zs 2
  have y3 : Z 3 = ga := zs 3
  have y4 : Z 4 = kV := zs 4
  have y5 : Z 5 = iV := zs 5
  have y6 : Z 6 = a := zs 6
  have y7 : Z 7 = tx := zs 7
  have y8 : Z 8 = re := zs 8
  have y9 : Z 9 = lt := zs 9
  have y10 : Z 10 = wr := zs 10
  have y11 : Z 11 = dg := zs 11
  have y12 : Z 12 = dq := zs 12
  have y13 : Z 13 = kD := zs 13
  have y14 : Z 14 = iD := zs 14
  have y15 : Z 15 = nq := zs 15
  have y16 : Z 16 = kN := zs 16
  have y17 : Z 17 = iN := zs 17
  have y18 : Z 18 = oa := zs 18
  have y200 : Z 200 = vs := zs 200
  have y201 : Z 201 = nu := zs 201
  have y202 : Z 202 = no := zs 202
  have y203 : Z 203 = ye := zs 203
  have y204 : Z 204 = ni := zs 204
  have y205 : Z 205 = al := zs 205
  have y206 : Z 206 = st := zs 206
  have y207 : Z 207 = gaU := zs 207
  have y208 : Z 208 = gaR := zs 208
  have P : ∀ r, rU r → ¬ rP ρ (Z r) := fun r hr z => by
    have h1 : ρ (Z r) = 0 := z
    have h2 := hρ r hr
    unfold rU at hr
    omega
  have leaf : ∀ k x, k < 3 → ρ x = 0 → g4 x = some (.inr (6, [.int (nI k), .long 0, .ref (E.2.2.2 1), .ref ni, .ref ni, .int 1, .int 0])) → cw E (rP ρ) g4 x (vt_0 k) := fun k x hk h0 hc => cw_leaf (kk := k) (n := 0) (L := []) (by omega) (fun _ => rfl) (fun _ => rfl) lt_ok0 ⟨h0, pni⟩ hc (Or.inl ⟨rfl, rfl⟩) (fun z => by omega) (go bni)
  have hvs : vs_C E (rP ρ) g4 (Z 200) (Z 201) (Z 202) (Z 203) (Z 204) (Z 205) (Z 3) := by
    rw [y200, y201, y202, y203, y204, y205, y3]
    refine ⟨⟨p7, pni, pal⟩, go bvs, leaf 0 nu (by decide) pnu (go bnu), leaf 1 no (by decide) pno (go bno), leaf 2 ye (by decide) pye (go bye), ⟨_, go bni⟩, gA, XL, go bal, fun j hj => ⟨(hLs.1 j hj).1, ?_⟩⟩
    exact ⟨KL j, ni, ni, _, _, ⟨pXL j hj, pni, pni⟩, go (bXL j hj), ⟨pKL j hj, _, go (bKL j hj), fun i hi => by rw [show i = 0 from Nat.lt_one_iff.mp hi]; rfl⟩, go bni, go bni⟩
  refine ⟨ρ, Z, nu, y6, y18, hρm mm (Or.inl rfl), fun k hk h8 => hρm _ (Or.inr ⟨k, hk, h8, rfl⟩), ?_⟩
  have hGa : ∀ r x y z n, rU r → rU (r + 1) → rU (r + 2) → Z r = x → Z (r + 1) = y → Z (r + 2) = z → g4 x = some (.inr (1, [.ref y, .ref z, .int (nI n)])) → g4 y = some (gh_A16 E) → g4 z = some (gh_A16 E) → ga_0 E (rP ρ) g4 (Z r) (Z (r + 1)) (Z (r + 2)) := fun r x y z n h0 h1 h2 e0 e1 e2 c0 c1 c2 => by
    refine ⟨⟨P r h0, P _ h1, P _ h2⟩, rz_ne hρ h1 h2 (by omega), n, fun _ => none, fun _ => none, ?_, ?_, ?_⟩
    · rw [e0, e1, e2]; exact c0
    · rw [e1]; exact c1
    · rw [e2]; exact c2
  refine ⟨?_, ⟨hρ, by rw [y208]; exact pgaR, ⟨gR, by rw [y208]; exact go bgaR, fun j hj => by rw [(z100 j hj).1]; exact (hGR.1 j hj).1⟩, hvs, hρn, ⟨_, by rw [y7]; exact go ctx, fun j hj => absurd hj (Nat.not_lt_zero j)⟩, Nat.zero_le _, fun j hj => absurd hj (Nat.not_lt_zero j)⟩, ⟨_, _, _, by rw [y8, y200, y208, y9]; exact go bre⟩, ⟨_, by rw [y9]; exact go blt⟩, ?_, ⟨0, (0, 0), by rw [y10, y11]; exact go bwr, _, by rw [y11]; exact go bdg⟩, ⟨_, 0, by rw [y1, y200, y206, y207, y2]; exact go bru⟩, ?_, ⟨?_, ?_⟩, ?_, ⟨_, fun _ => 0, by rw [y2]; exact go bpo, Nat.zero_le _, fun j hj => absurd hj (Nat.not_lt_zero j)⟩, leaf 0 nu (by decide) pnu (go bnu), ⟨by rw [y15, y16, y17]; exact go bnq, by rw [y16]; exact go bkN, by rw [y17]; exact go biN⟩, ?_⟩
  · show g4 (Z 6) = _
    rw [y6, y7, y8, y10, y1, y12, y15]
    exact go ca
  · intro d hd
    obtain ⟨e0, e1, e2⟩ := z100 d hd
    have h := hGa (100 + 3 * d) (XR d) (KR d) (IR d) 0 (by unfold rU; omega) (by unfold rU; omega) (by unfold rU; omega) e0 (by rw [← e1]; congr 1; omega) (by rw [← e2]; congr 1; omega) (go (bXR d hd)) (go (bKR d hd)) (go (bIR d hd))
    rw [show 100 + 3 * d + 1 = 101 + 3 * d by omega, show 100 + 3 * d + 2 = 102 + 3 * d by omega] at h
    exact h
  · exact ⟨hρ, ⟨by rw [y206]; exact pst, by rw [y207]; exact pgaU⟩, ⟨gS, by rw [y206]; exact go bst, fun j hj => by rw [z1000]; exact (hSs.1 j hj).1⟩, ⟨gU, by rw [y207]; exact go bgaU, fun j hj => by rw [(z130 j hj).1]; exact (hGU.1 j hj).1⟩, hvs, by rw [y12, y13, y14]; exact go bdq, by rw [y13]; exact go bkD, by rw [y14]; exact go biD, by decide, Or.inl rfl⟩
  · exact hGa 3 ga kV iV 0 (by unfold rU; omega) (by unfold rU; omega) (by unfold rU; omega) y3 y4 y5 (go bga) (go bkV) (go biV)
  · intro d hd
    obtain ⟨e0, e1, e2⟩ := z130 d hd
    have h := hGa (130 + 3 * d) (XU d) (KU d) (IU d) 0 (by unfold rU; omega) (by unfold rU; omega) (by unfold rU; omega) e0 (by rw [← e1]; congr 1; omega) (by rw [← e2]; congr 1; omega) (go (bXU d hd)) (go (bKU d hd)) (go (bIU d hd))
    rw [show 130 + 3 * d + 1 = 131 + 3 * d by omega, show 130 + 3 * d + 2 = 132 + 3 * d by omega] at h
    exact h
  · intro j hj
    exact ⟨_, _, _, _, _, _, _, _, _, by rw [z1000]; exact go (bXS j hj)⟩
  · exact ⟨by rw [li_cb0]; exact li_q0, fun j => by rw [li_cb0]; exact (by decide : 0 < 256), Or.inl ⟨rfl, rfl⟩, Nat.zero_le _, fun j => (by decide : 0 < 256)⟩
