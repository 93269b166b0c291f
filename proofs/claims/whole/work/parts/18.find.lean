/-! findBehind and findsParts, by induction on the depth that is left. Printed by wip/whole/gen_find.py. -/
theorem d_Qu_findBehind_0 : decode b_Qu_findBehind 0 = .ok (.iload_n 1, 1) := by decide +kernel
theorem d_Qu_findBehind_1 : decode b_Qu_findBehind 1 = .ok (.aload_n 0, 1) := by decide +kernel
theorem d_Qu_findBehind_2 : decode b_Qu_findBehind 2 = .ok (.getfield 16, 3) := by decide +kernel
theorem d_Qu_findBehind_5 : decode b_Qu_findBehind 5 = .ok (.if_icmp .ge 30, 3) := by decide +kernel
theorem d_Qu_findBehind_8 : decode b_Qu_findBehind 8 = .ok (.iload_n 2, 1) := by decide +kernel
theorem d_Qu_findBehind_9 : decode b_Qu_findBehind 9 = .ok (.bipush 12, 2) := by decide +kernel
theorem d_Qu_findBehind_11 : decode b_Qu_findBehind 11 = .ok (.if_icmp .gt 24, 3) := by decide +kernel
theorem d_Qu_findBehind_14 : decode b_Qu_findBehind 14 = .ok (.aload_n 0, 1) := by decide +kernel
theorem d_Qu_findBehind_15 : decode b_Qu_findBehind 15 = .ok (.getfield 9, 3) := by decide +kernel
theorem d_Qu_findBehind_18 : decode b_Qu_findBehind 18 = .ok (.iload_n 1, 1) := by decide +kernel
theorem d_Qu_findBehind_19 : decode b_Qu_findBehind 19 = .ok (.iaload, 1) := by decide +kernel
theorem d_Qu_findBehind_20 : decode b_Qu_findBehind 20 = .ok (.getstatic 24, 3) := by decide +kernel
theorem d_Qu_findBehind_23 : decode b_Qu_findBehind 23 = .ok (.arraylength, 1) := by decide +kernel
theorem d_Qu_findBehind_24 : decode b_Qu_findBehind 24 = .ok (.if_icmp .ge 11, 3) := by decide +kernel
theorem d_Qu_findBehind_27 : decode b_Qu_findBehind 27 = .ok (.aload_n 0, 1) := by decide +kernel
theorem d_Qu_findBehind_28 : decode b_Qu_findBehind 28 = .ok (.iload_n 1, 1) := by decide +kernel
theorem d_Qu_findBehind_29 : decode b_Qu_findBehind 29 = .ok (.invokevirtual 27, 3) := by decide +kernel
theorem d_Qu_findBehind_32 : decode b_Qu_findBehind 32 = .ok (.ifCond .ne 5, 3) := by decide +kernel
theorem d_Qu_findBehind_35 : decode b_Qu_findBehind 35 = .ok (.iconst (-1), 1) := by decide +kernel
theorem d_Qu_findBehind_36 : decode b_Qu_findBehind 36 = .ok (.ireturn, 1) := by decide +kernel
theorem d_Qu_findBehind_37 : decode b_Qu_findBehind 37 = .ok (.aload_n 0, 1) := by decide +kernel
theorem d_Qu_findBehind_38 : decode b_Qu_findBehind 38 = .ok (.getfield 9, 3) := by decide +kernel
theorem d_Qu_findBehind_41 : decode b_Qu_findBehind 41 = .ok (.iload_n 1, 1) := by decide +kernel
theorem d_Qu_findBehind_42 : decode b_Qu_findBehind 42 = .ok (.iaload, 1) := by decide +kernel
theorem d_Qu_findBehind_43 : decode b_Qu_findBehind 43 = .ok (.istore_n 3, 1) := by decide +kernel
theorem d_Qu_findBehind_44 : decode b_Qu_findBehind 44 = .ok (.iload_n 1, 1) := by decide +kernel
theorem d_Qu_findBehind_45 : decode b_Qu_findBehind 45 = .ok (.iload_n 3, 1) := by decide +kernel
theorem d_Qu_findBehind_46 : decode b_Qu_findBehind 46 = .ok (.invokestatic 31, 3) := by decide +kernel
theorem d_Qu_findBehind_49 : decode b_Qu_findBehind 49 = .ok (.ifCond .ne 10, 3) := by decide +kernel
theorem d_Qu_findBehind_52 : decode b_Qu_findBehind 52 = .ok (.iload_n 3, 1) := by decide +kernel
theorem d_Qu_findBehind_53 : decode b_Qu_findBehind 53 = .ok (.invokestatic 34, 3) := by decide +kernel
theorem d_Qu_findBehind_56 : decode b_Qu_findBehind 56 = .ok (.ifCond .eq 7, 3) := by decide +kernel
theorem d_Qu_findBehind_59 : decode b_Qu_findBehind 59 = .ok (.iconst 2, 1) := by decide +kernel
theorem d_Qu_findBehind_60 : decode b_Qu_findBehind 60 = .ok (.goto 4, 3) := by decide +kernel
theorem d_Qu_findBehind_63 : decode b_Qu_findBehind 63 = .ok (.iconst 1, 1) := by decide +kernel
theorem d_Qu_findBehind_64 : decode b_Qu_findBehind 64 = .ok (.iadd, 1) := by decide +kernel
theorem d_Qu_findBehind_65 : decode b_Qu_findBehind 65 = .ok (.istore 4, 2) := by decide +kernel
theorem d_Qu_findBehind_67 : decode b_Qu_findBehind 67 = .ok (.iconst 0, 1) := by decide +kernel
theorem d_Qu_findBehind_68 : decode b_Qu_findBehind 68 = .ok (.istore 5, 2) := by decide +kernel
theorem d_Qu_findBehind_70 : decode b_Qu_findBehind 70 = .ok (.iload 5, 2) := by decide +kernel
theorem d_Qu_findBehind_72 : decode b_Qu_findBehind 72 = .ok (.getstatic 24, 3) := by decide +kernel
theorem d_Qu_findBehind_75 : decode b_Qu_findBehind 75 = .ok (.iload_n 3, 1) := by decide +kernel
theorem d_Qu_findBehind_76 : decode b_Qu_findBehind 76 = .ok (.iaload, 1) := by decide +kernel
theorem d_Qu_findBehind_77 : decode b_Qu_findBehind 77 = .ok (.if_icmp .ge 41, 3) := by decide +kernel
theorem d_Qu_findBehind_80 : decode b_Qu_findBehind 80 = .ok (.aload_n 0, 1) := by decide +kernel
theorem d_Qu_findBehind_81 : decode b_Qu_findBehind 81 = .ok (.getfield 13, 3) := by decide +kernel
theorem d_Qu_findBehind_84 : decode b_Qu_findBehind 84 = .ok (.iload_n 1, 1) := by decide +kernel
theorem d_Qu_findBehind_85 : decode b_Qu_findBehind 85 = .ok (.iconst 3, 1) := by decide +kernel
theorem d_Qu_findBehind_86 : decode b_Qu_findBehind 86 = .ok (.imul, 1) := by decide +kernel
theorem d_Qu_findBehind_87 : decode b_Qu_findBehind 87 = .ok (.iload 5, 2) := by decide +kernel
theorem d_Qu_findBehind_89 : decode b_Qu_findBehind 89 = .ok (.iadd, 1) := by decide +kernel
theorem d_Qu_findBehind_90 : decode b_Qu_findBehind 90 = .ok (.iload 4, 2) := by decide +kernel
theorem d_Qu_findBehind_92 : decode b_Qu_findBehind 92 = .ok (.iastore, 1) := by decide +kernel
theorem d_Qu_findBehind_93 : decode b_Qu_findBehind 93 = .ok (.aload_n 0, 1) := by decide +kernel
theorem d_Qu_findBehind_94 : decode b_Qu_findBehind 94 = .ok (.iload 4, 2) := by decide +kernel
theorem d_Qu_findBehind_96 : decode b_Qu_findBehind 96 = .ok (.iload_n 2, 1) := by decide +kernel
theorem d_Qu_findBehind_97 : decode b_Qu_findBehind 97 = .ok (.iconst 1, 1) := by decide +kernel
theorem d_Qu_findBehind_98 : decode b_Qu_findBehind 98 = .ok (.iadd, 1) := by decide +kernel
theorem d_Qu_findBehind_99 : decode b_Qu_findBehind 99 = .ok (.invokevirtual 20, 3) := by decide +kernel
theorem d_Qu_findBehind_102 : decode b_Qu_findBehind 102 = .ok (.istore 4, 2) := by decide +kernel
theorem d_Qu_findBehind_104 : decode b_Qu_findBehind 104 = .ok (.iload 4, 2) := by decide +kernel
theorem d_Qu_findBehind_106 : decode b_Qu_findBehind 106 = .ok (.iconst (-1), 1) := by decide +kernel
theorem d_Qu_findBehind_107 : decode b_Qu_findBehind 107 = .ok (.if_icmp .ne 5, 3) := by decide +kernel
theorem d_Qu_findBehind_110 : decode b_Qu_findBehind 110 = .ok (.iconst (-1), 1) := by decide +kernel
theorem d_Qu_findBehind_111 : decode b_Qu_findBehind 111 = .ok (.ireturn, 1) := by decide +kernel
theorem d_Qu_findBehind_112 : decode b_Qu_findBehind 112 = .ok (.iinc 5 1, 3) := by decide +kernel
theorem d_Qu_findBehind_115 : decode b_Qu_findBehind 115 = .ok (.goto (-45), 3) := by decide +kernel
theorem d_Qu_findBehind_118 : decode b_Qu_findBehind 118 = .ok (.iload 4, 2) := by decide +kernel
theorem d_Qu_findBehind_120 : decode b_Qu_findBehind 120 = .ok (.ireturn, 1) := by decide +kernel
set_option maxHeartbeats 4000000 in
set_option maxRecDepth 100000 in
theorem c_Qu_findBehind (l : Launch) (E : gh_E) : ∀ (d sz : Nat) (f : gh_F) (a cd bga n i dep : Nat) (cb bg : Nat → Nat), dep + d = 13 → n ≤ 60 → i ≤ 60 → (∀ j, cb j < 256) → f a = some (.inr (2, [.ref cd, .ref bga, .int (nI n)])) → f cd = some (.inl (E.2.2.1 0, 60, .inl (fun j => nI (cb j)))) → f bga = some (.inl (E.2.2.1 0, 180, .inl (fun j => nI (bg j)))) → cd ≠ bga → gh_M l y_Qu_findBehind b_Qu_findBehind 6 (some .int) E sz [.ref a, .int (nI i), .int (nI dep)] f { frames := 3 + d, cells := 0, slots := 0, locals := 80 + 25 * d } (fun r g => r = some (.int (qy_ret (qy_run cb n d i bg).1)) ∧ g bga = some (.inl (E.2.2.1 0, 180, .inl (fun j => nI ((qy_run cb n d i bg).2 j)))) ∧ gh_fr f g (fun b => b ∈ ([bga] : List Nat))) := by
  intro d
  induction d with
  | zero =>
    intro sz f a cd bga n i dep cb bg hdep hn hi hcb ha hcd hbg hne
    refine gh_open (by decide) (Nat.le_of_ble_eq_true rfl) ?_
    intro p e s m args below meth c A ls hAe C V hr hlocks hname hl
    have hx := C.1
    have hb := C.2.1
    have hl : lv_has ls 6 [(0, .ref a), (1, .int (nI i)), (2, .int (nI dep))] := hl
    have hfr : gh_fr f f (fun b => b ∈ ([bga] : List Nat)) := gh_fr.rf
    have ne_cd_bga := hne
    refine lv_iload_n hx hb d_Qu_findBehind_0 rfl (lv_at hl 1 rfl) ?_
    refine lv_aload_n hx hb d_Qu_findBehind_1 rfl (lv_at hl 0 rfl) ?_
    refine gh_get C V ha gc_Qu gi_Qu 2 (by decide) f_Qu_16 rfl rfl d_Qu_findBehind_2 ?_
    refine lv_icmp_ge (tgt := 35) hx hb d_Qu_findBehind_5 (by decide) (fun c1 => ?_) (fun c1 => ?_)
    · have c1 : n ≤ i := by rw [← gq_le (a := n) (b := i) (by omega) (by omega)]; exact c1
      refine lv_iconst (v := (-1)) hx hb d_Qu_findBehind_35 (by decide) ?_
      refine gh_reti hAe C V hr hlocks d_Qu_findBehind_36 (by first | decide | omega | (dsimp only; omega)) (by first | decide | omega | (dsimp only; omega)) ?_
      have hq9 : qy_run cb n 0 i bg = (none, bg) := by rfl
      rw [hq9]
      exact ⟨rfl, hbg, gh_fr.rf⟩
    · have c1 : ¬ n ≤ i := by rw [← gq_le (a := n) (b := i) (by omega) (by omega)]; exact c1
      refine lv_iload_n hx hb d_Qu_findBehind_8 rfl (lv_at hl 2 rfl) ?_
      refine lv_bipush (v := 12) hx hb d_Qu_findBehind_9 (by decide) ?_
      refine lv_icmp_gt (tgt := 35) hx hb d_Qu_findBehind_11 (by decide) (fun c2 => ?_) (fun c2 => absurd (show (12 : Int32) < nI dep from nI_lt (a := 12) (by omega) (by omega)) c2)
      refine lv_iconst (v := (-1)) hx hb d_Qu_findBehind_35 (by decide) ?_
      refine gh_reti hAe C V hr hlocks d_Qu_findBehind_36 (by first | decide | omega | (dsimp only; omega)) (by first | decide | omega | (dsimp only; omega)) ?_
      have hq9 : qy_run cb n 0 i bg = (none, bg) := by rfl
      rw [hq9]
      exact ⟨rfl, hbg, gh_fr.rf⟩
  | succ d ihd =>
    intro sz f a cd bga n i dep cb bg hdep hn hi hcb ha hcd hbg hne
    refine gh_open (by decide) (Nat.le_of_ble_eq_true rfl) ?_
    intro p e s m args below meth c A ls hAe C V hr hlocks hname hl
    have hx := C.1
    have hb := C.2.1
    have hl : lv_has ls 6 [(0, .ref a), (1, .int (nI i)), (2, .int (nI dep))] := hl
    have hfr : gh_fr f f (fun b => b ∈ ([bga] : List Nat)) := gh_fr.rf
    have ne_cd_bga := hne
    have loop : ∀ (c0 k pl : Nat) (bg1 : Nat → Nat) (f1 : gh_F) (H : Heap) (locs : List Loc) (ls : Array Slot), k + c0 = qy_parts (cb i) → pl ≤ 60 → f1 bga = some (.inl (E.2.2.1 0, 180, .inl (fun j => nI (bg1 j)))) → gh_fr f f1 (fun b => b ∈ ([bga] : List Nat)) → gh_V E A f1 s H locs → lv_has ls 6 [(5, .int (nI k)), (4, .int (nI pl)), (0, .ref a), (1, .int (nI i)), (2, .int (nI dep)), (3, .int (nI (cb i)))] → qy_loop (qy_run cb n d) (i * 3) c0 k pl bg1 = qy_run cb n (d + 1) i bg → cb i < 256 → (cb i < 27 ∧ i < n) → W p l e { frames := 3 + (d + 1), cells := 0, slots := 0, locals := 80 + 25 * (d + 1) } s m args below meth c H locs 0 0 (MQ below (gh_Q E f (fun r g => r = some (.int (qy_ret (qy_run cb n (d + 1) i bg).1)) ∧ g bga = some (.inl (E.2.2.1 0, 180, .inl (fun j => nI ((qy_run cb n (d + 1) i bg).2 j)))) ∧ gh_fr f g (fun b => b ∈ ([bga] : List Nat)))) args s 0 0 A) (F0 m 70 ls []) := by
      intro c0
      induction c0 with
      | zero =>
        intro k pl bg1 f1 H locs ls hk hpl hb1 hfr V hl hst hc6 hc7
        obtain ⟨hc27, hin⟩ := hc7
        have hp3 := qy_parts_le (cb i) hc27
        have h_a_l : f1 a = some (.inr (2, [.ref cd, .ref bga, .int (nI n)])) := hfr.at1 ha (gh_nek ha hbg (show (2 : Nat) ≠ 100 by decide))
        have h_cd_l : f1 cd = some (.inl (E.2.2.1 0, 60, .inl (fun j => nI (cb j)))) := hfr.at1 hcd hne
        refine lv_iload hx hb d_Qu_findBehind_70 (lv_at hl 0 rfl) ?_
        refine gh_partsin C V f_Qu_24 d_Qu_findBehind_72 ?_
        refine lv_iload_n hx hb d_Qu_findBehind_75 rfl (lv_at hl 5 rfl) ?_
        refine gn_pald (i := cb i) C V (by omega) d_Qu_findBehind_76 ?_
        refine lv_icmp_ge (tgt := 118) hx hb d_Qu_findBehind_77 (by decide) (fun c501 => ?_) (fun c501 => absurd (nI_le (by omega) (by omega)) c501)
        refine lv_iload hx hb d_Qu_findBehind_118 (lv_at hl 1 rfl) ?_
        refine gh_reti hAe C V hr hlocks d_Qu_findBehind_120 (by first | decide | omega | (dsimp only; omega)) (by first | decide | omega | (dsimp only; omega)) ?_
        rw [← hst]
        exact ⟨rfl, hb1, hfr⟩
      | succ c0 ihc =>
        intro k pl bg1 f1 H locs ls hk hpl hb1 hfr V hl hst hc6 hc7
        obtain ⟨hc27, hin⟩ := hc7
        have hp3 := qy_parts_le (cb i) hc27
        have h_a_l : f1 a = some (.inr (2, [.ref cd, .ref bga, .int (nI n)])) := hfr.at1 ha (gh_nek ha hbg (show (2 : Nat) ≠ 100 by decide))
        have h_cd_l : f1 cd = some (.inl (E.2.2.1 0, 60, .inl (fun j => nI (cb j)))) := hfr.at1 hcd hne
        refine lv_iload hx hb d_Qu_findBehind_70 (lv_at hl 0 rfl) ?_
        refine gh_partsin C V f_Qu_24 d_Qu_findBehind_72 ?_
        refine lv_iload_n hx hb d_Qu_findBehind_75 rfl (lv_at hl 5 rfl) ?_
        refine gn_pald (i := cb i) C V (by omega) d_Qu_findBehind_76 ?_
        refine lv_icmp_ge (tgt := 118) hx hb d_Qu_findBehind_77 (by decide) (fun c502 => absurd c502 (nI_ge (by omega) (by omega))) (fun c502 => ?_)
        refine lv_aload_n hx hb d_Qu_findBehind_80 rfl (lv_at hl 2 rfl) ?_
        refine gh_get C V h_a_l gc_Qu gi_Qu 1 (by decide) f_Qu_13 rfl rfl d_Qu_findBehind_81 ?_
        refine lv_iload_n hx hb d_Qu_findBehind_84 rfl (lv_at hl 3 rfl) ?_
        refine lv_iconst (v := 3) hx hb d_Qu_findBehind_85 (by decide) ?_
        refine gn_imul (a := i) (b := 3) hx hb d_Qu_findBehind_86 ?_
        refine lv_iload hx hb d_Qu_findBehind_87 (lv_at hl 0 rfl) ?_
        refine gn_iadd (a := i * 3) (b := k) hx hb d_Qu_findBehind_89 ?_
        refine lv_iload hx hb d_Qu_findBehind_90 (lv_at hl 1 rfl) ?_
        refine gn_iast C V hb1 (by omega) (by decide) d_Qu_findBehind_92 (fun H locs V => ?_)
        rw [upd_nI] at V
        obtain ⟨f503, hff503⟩ : ∃ z9 : gh_F, z9 = gh_u f1 bga (.inl (E.2.2.1 0, 180, .inl (fun j => nI ((va_up bg1 (i * 3 + k) pl) j)))) := ⟨_, rfl⟩
        have V : gh_V E A f503 s H locs := by rw [hff503]; exact V
        have hfr : gh_fr f f503 (fun b => b ∈ ([bga] : List Nat)) := by rw [hff503]; exact hfr.put (Or.inl (by simp))
        have h_a_f503 : f503 a = some (.inr (2, [.ref cd, .ref bga, .int (nI n)])) := by rw [hff503, gh_un (gh_nek h_a_l hb1 (show (2 : Nat) ≠ 100 by decide))]; exact h_a_l
        have h_cd_f503 : f503 cd = some (.inl (E.2.2.1 0, 60, .inl (fun j => nI (cb j)))) := by rw [hff503, gh_un ne_cd_bga]; exact h_cd_l
        have h_bga_f503 : f503 bga = some (.inl (E.2.2.1 0, 180, .inl (fun j => nI ((va_up bg1 (i * 3 + k) pl) j)))) := by rw [hff503, gh_us]
        refine lv_aload_n hx hb d_Qu_findBehind_93 rfl (lv_at hl 2 rfl) ?_
        refine lv_iload hx hb d_Qu_findBehind_94 (lv_at hl 1 rfl) ?_
        refine lv_iload_n hx hb d_Qu_findBehind_96 rfl (lv_at hl 4 rfl) ?_
        refine lv_iconst (v := 1) hx hb d_Qu_findBehind_97 (by decide) ?_
        refine gn_iadd (a := dep) (b := 1) hx hb d_Qu_findBehind_98 ?_
        refine gh_callV C V hl.1 m_Qu_findBehind l_Qu_20 (ihd _ f503 a cd bga n pl (dep + 1) cb (va_up bg1 (i * 3 + k) pl) (by omega) hn hpl hcb h_a_f503 h_cd_f503 h_bga_f503 hne) rfl h_a_f503 gc_Qu ⟨by first | decide | omega | (dsimp only; omega), by first | decide | omega | (dsimp only; omega)⟩ ⟨by first | decide | omega | (dsimp only; omega), by first | decide | omega | (dsimp only; omega)⟩ (Nat.le_of_ble_eq_true rfl) rfl d_Qu_findBehind_99 (fun r f504 H locs hp V => ?_)
        obtain ⟨o9, bg3, hR⟩ : ∃ o9 bg3, qy_run cb n d pl (va_up bg1 (i * 3 + k) pl) = (o9, bg3) := ⟨_, _, rfl⟩
        rw [hR] at hp
        obtain ⟨rfl, hb9, hfr2⟩ := hp
        have hfr : gh_fr f f504 (fun b => b ∈ ([bga] : List Nat)) := hfr.tr1 hfr2 (Or.inl (by simp))
        cases o9 with
        | none =>
          refine W.eq (g2 := F0 m 102 ls [.int ((-1))]) rfl ?_
          have hs9 : qy_loop (qy_run cb n d) (i * 3) (c0 + 1) k pl bg1 = (none, bg3) := by conv => lhs; unfold qy_loop; rw [hR]
          refine lv_istore hx hb d_Qu_findBehind_102 hl (by decide) rfl (fun ls hl => ?_)
          have hl : lv_has ls 6 [(4, .int ((-1))), (5, .int (nI k)), (0, .ref a), (1, .int (nI i)), (2, .int (nI dep)), (3, .int (nI (cb i)))] := hl
          refine lv_iload hx hb d_Qu_findBehind_104 (lv_at hl 0 rfl) ?_
          refine lv_iconst (v := (-1)) hx hb d_Qu_findBehind_106 (by decide) ?_
          refine lv_icmp_ne (tgt := 112) hx hb d_Qu_findBehind_107 (by decide) (fun c505 => absurd rfl c505) (fun c505 => ?_)
          refine lv_iconst (v := (-1)) hx hb d_Qu_findBehind_110 (by decide) ?_
          refine gh_reti hAe C V hr hlocks d_Qu_findBehind_111 (by first | decide | omega | (dsimp only; omega)) (by first | decide | omega | (dsimp only; omega)) ?_
          rw [← hst, hs9]
          exact ⟨rfl, hb9, hfr⟩
        | some p9 =>
          refine W.eq (g2 := F0 m 102 ls [.int (nI p9)]) rfl ?_
          have hs9 : qy_loop (qy_run cb n d) (i * 3) (c0 + 1) k pl bg1 = qy_loop (qy_run cb n d) (i * 3) c0 (k + 1) p9 bg3 := by conv => lhs; unfold qy_loop; rw [hR]
          have hp9 := qy_run_le _ _ _ _ _ hR
          refine lv_istore hx hb d_Qu_findBehind_102 hl (by decide) rfl (fun ls hl => ?_)
          have hl : lv_has ls 6 [(4, .int (nI p9)), (5, .int (nI k)), (0, .ref a), (1, .int (nI i)), (2, .int (nI dep)), (3, .int (nI (cb i)))] := hl
          refine lv_iload hx hb d_Qu_findBehind_104 (lv_at hl 0 rfl) ?_
          refine lv_iconst (v := (-1)) hx hb d_Qu_findBehind_106 (by decide) ?_
          refine lv_icmp_ne (tgt := 112) hx hb d_Qu_findBehind_107 (by decide) (fun c506 => ?_) (fun c506 => absurd c506 (gn_nem1 (by omega)))
          refine lv_iinc (k := 1) (v := (nI k) + 1) hx hb d_Qu_findBehind_112 hl rfl (by rfl) (by decide) rfl (fun ls hl => ?_)
          have hl : lv_has ls 6 [(5, .int ((nI k) + 1)), (4, .int (nI p9)), (0, .ref a), (1, .int (nI i)), (2, .int (nI dep)), (3, .int (nI (cb i)))] := hl
          refine lv_goto (tgt := 70) hx hb d_Qu_findBehind_115 (by decide) ?_
          have hl : lv_has ls 6 [(5, .int ((nI k) + 1)), (4, .int (nI p9)), (0, .ref a), (1, .int (nI i)), (2, .int (nI dep)), (3, .int (nI (cb i)))] := lv_sub hl [0, 1, 2, 3, 4, 5] rfl
          have hl : lv_has ls 6 [(5, .int (nI (k + 1))), (4, .int (nI p9)), (0, .ref a), (1, .int (nI i)), (2, .int (nI dep)), (3, .int (nI (cb i)))] := by rw [nI_succ]; exact hl
          exact ihc (k + 1) p9 bg3 f504 H locs ls (by omega) (by omega) hb9 hfr V hl (by rw [← hst, hs9]) hc6 ⟨hc27, hin⟩
    refine lv_iload_n hx hb d_Qu_findBehind_0 rfl (lv_at hl 1 rfl) ?_
    refine lv_aload_n hx hb d_Qu_findBehind_1 rfl (lv_at hl 0 rfl) ?_
    refine gh_get C V ha gc_Qu gi_Qu 2 (by decide) f_Qu_16 rfl rfl d_Qu_findBehind_2 ?_
    refine lv_icmp_ge (tgt := 35) hx hb d_Qu_findBehind_5 (by decide) (fun c507 => ?_) (fun c507 => ?_)
    · have c507 : n ≤ i := by rw [← gq_le (a := n) (b := i) (by omega) (by omega)]; exact c507
      refine lv_iconst (v := (-1)) hx hb d_Qu_findBehind_35 (by decide) ?_
      refine gh_reti hAe C V hr hlocks d_Qu_findBehind_36 (by first | decide | omega | (dsimp only; omega)) (by first | decide | omega | (dsimp only; omega)) ?_
      have hq9 : qy_run cb n (d + 1) i bg = (none, bg) := by unfold qy_run; rw [if_neg (by first | (intro z; omega) | (intro z; simp_all))]
      rw [hq9]
      exact ⟨rfl, hbg, gh_fr.rf⟩
    · have c507 : ¬ n ≤ i := by rw [← gq_le (a := n) (b := i) (by omega) (by omega)]; exact c507
      refine lv_iload_n hx hb d_Qu_findBehind_8 rfl (lv_at hl 2 rfl) ?_
      refine lv_bipush (v := 12) hx hb d_Qu_findBehind_9 (by decide) ?_
      refine lv_icmp_gt (tgt := 35) hx hb d_Qu_findBehind_11 (by decide) (fun c508 => absurd c508 (show ¬ (12 : Int32) < nI dep from nI_nlt (a := 12) (b := dep) (by omega) (by decide))) (fun c508 => ?_)
      refine lv_aload_n hx hb d_Qu_findBehind_14 rfl (lv_at hl 0 rfl) ?_
      refine gh_get C V ha gc_Qu gi_Qu 0 (by decide) f_Qu_9 rfl rfl d_Qu_findBehind_15 ?_
      refine lv_iload_n hx hb d_Qu_findBehind_18 rfl (lv_at hl 1 rfl) ?_
      refine gn_iald (i := i) C V hcd (by omega) (by decide) d_Qu_findBehind_19 ?_
      have hcb19 := hcb i
      refine gh_partsin C V f_Qu_24 d_Qu_findBehind_20 ?_
      refine gn_plen C V d_Qu_findBehind_23 ?_
      refine lv_icmp_ge (tgt := 35) hx hb d_Qu_findBehind_24 (by decide) (fun c509 => ?_) (fun c509 => ?_)
      · have c509 : 27 ≤ (cb i) := by rw [← gq_le (a := 27) (b := cb i) (by omega) (by omega)]; exact c509
        refine lv_iconst (v := (-1)) hx hb d_Qu_findBehind_35 (by decide) ?_
        refine gh_reti hAe C V hr hlocks d_Qu_findBehind_36 (by first | decide | omega | (dsimp only; omega)) (by first | decide | omega | (dsimp only; omega)) ?_
        have hq9 : qy_run cb n (d + 1) i bg = (none, bg) := by unfold qy_run; rw [if_neg (by first | (intro z; omega) | (intro z; simp_all))]
        rw [hq9]
        exact ⟨rfl, hbg, gh_fr.rf⟩
      · have c509 : ¬ 27 ≤ (cb i) := by rw [← gq_le (a := 27) (b := cb i) (by omega) (by omega)]; exact c509
        refine lv_aload_n hx hb d_Qu_findBehind_27 rfl (lv_at hl 0 rfl) ?_
        refine lv_iload_n hx hb d_Qu_findBehind_28 rfl (lv_at hl 1 rfl) ?_
        refine gh_callV C V hl.1 m_Qu_hasItsByte l_Qu_27 (c_Qu_hasItsByte l E _ f a cd bga n i cb hn (by omega) hcb ha hcd) rfl ha gc_Qu ⟨by first | decide | omega | (dsimp only; omega), by first | decide | omega | (dsimp only; omega)⟩ ⟨by first | decide | omega | (dsimp only; omega), by first | decide | omega | (dsimp only; omega)⟩ (Nat.le_of_ble_eq_true rfl) rfl d_Qu_findBehind_29 (fun r z9 H locs hp V => ?_)
        obtain ⟨rfl, he9⟩ := hp
        rw [he9] at V
        refine W.eq (g2 := F0 m 32 ls [.int (gh_bi (qy_has cb n i))]) rfl ?_
        refine lv_if_ne (tgt := 37) hx hb d_Qu_findBehind_32 (by decide) (fun c510 => ?_) (fun c510 => ?_)
        · have c510 : (qy_has cb n i) = true := gh_bi_1 c510
          refine lv_aload_n hx hb d_Qu_findBehind_37 rfl (lv_at hl 0 rfl) ?_
          refine gh_get C V ha gc_Qu gi_Qu 0 (by decide) f_Qu_9 rfl rfl d_Qu_findBehind_38 ?_
          refine lv_iload_n hx hb d_Qu_findBehind_41 rfl (lv_at hl 1 rfl) ?_
          refine gn_iald (i := i) C V hcd (by omega) (by decide) d_Qu_findBehind_42 ?_
          have hcb42 := hcb i
          refine lv_istore_n hx hb d_Qu_findBehind_43 rfl hl (by decide) rfl (fun ls hl => ?_)
          have hl : lv_has ls 6 [(3, .int (nI (cb i))), (0, .ref a), (1, .int (nI i)), (2, .int (nI dep))] := hl
          refine lv_iload_n hx hb d_Qu_findBehind_44 rfl (lv_at hl 2 rfl) ?_
          refine lv_iload_n hx hb d_Qu_findBehind_45 rfl (lv_at hl 0 rfl) ?_
          refine gh_callS C V hl.1 m_Qu_takesLetter l_Qu_31 (c_Qu_takesLetter l E _ f (cb i) (hcb _)) rfl ⟨by first | decide | omega | (dsimp only; omega), by first | decide | omega | (dsimp only; omega)⟩ ⟨by first | decide | omega | (dsimp only; omega), by first | decide | omega | (dsimp only; omega)⟩ (Nat.le_of_ble_eq_true rfl) rfl d_Qu_findBehind_46 (fun r z9 H locs hp V => ?_)
          obtain ⟨rfl, he9⟩ := hp
          rw [he9] at V
          refine W.eq (g2 := F0 m 49 ls [.int (gh_bi (qy_let (cb i))), .int (nI i)]) rfl ?_
          refine lv_if_ne (tgt := 59) hx hb d_Qu_findBehind_49 (by decide) (fun c511 => ?_) (fun c511 => ?_)
          · have c511 : (qy_let (cb i)) = true := gh_bi_1 c511
            refine lv_iconst (v := 2) hx hb d_Qu_findBehind_59 (by decide) ?_
            refine lv_goto (tgt := 64) hx hb d_Qu_findBehind_60 (by decide) ?_
            refine gn_iadd (a := i) (b := 2) hx hb d_Qu_findBehind_64 ?_
            refine lv_istore hx hb d_Qu_findBehind_65 hl (by decide) rfl (fun ls hl => ?_)
            have hl : lv_has ls 6 [(4, .int (nI (i + 2))), (3, .int (nI (cb i))), (0, .ref a), (1, .int (nI i)), (2, .int (nI dep))] := hl
            refine lv_iconst (v := 0) hx hb d_Qu_findBehind_67 (by decide) ?_
            refine lv_istore hx hb d_Qu_findBehind_68 hl (by decide) rfl (fun ls hl => ?_)
            have hl : lv_has ls 6 [(5, .int 0), (4, .int (nI (i + 2))), (3, .int (nI (cb i))), (0, .ref a), (1, .int (nI i)), (2, .int (nI dep))] := hl
            have hl : lv_has ls 6 [(5, .int 0), (4, .int (nI (i + 2))), (0, .ref a), (1, .int (nI i)), (2, .int (nI dep)), (3, .int (nI (cb i)))] := lv_sub hl [0, 1, 3, 4, 5, 2] rfl
            have hl : lv_has ls 6 [(5, .int (nI 0)), (4, .int (nI (i + 2))), (0, .ref a), (1, .int (nI i)), (2, .int (nI dep)), (3, .int (nI (cb i)))] := hl
            have hst : qy_loop (qy_run cb n d) (i * 3) (qy_parts (cb i)) 0 (i + 2) bg = qy_run cb n (d + 1) i bg := by
              conv => rhs; unfold qy_run
              rw [if_pos ⟨by omega, by omega, by assumption⟩]
              simp [c510, c511]
            have hpl : i + 2 ≤ 60 := by
              have hh := w_has_le (cb := cb) (i := i) hn (by omega) (by assumption)
              simp [c510, c511] at hh
              omega
            exact loop (qy_parts (cb i)) 0 (i + 2) bg f H locs ls (by omega) hpl hbg gh_fr.rf V hl hst hcb19 (by omega)
          · have c511 : (qy_let (cb i)) = false := gh_bi_0 c511
            refine lv_iload_n hx hb d_Qu_findBehind_52 rfl (lv_at hl 0 rfl) ?_
            refine gh_callS C V hl.1 m_Qu_takesNumber l_Qu_34 (c_Qu_takesNumber l E _ f (cb i) (hcb _)) rfl ⟨by first | decide | omega | (dsimp only; omega), by first | decide | omega | (dsimp only; omega)⟩ ⟨by first | decide | omega | (dsimp only; omega), by first | decide | omega | (dsimp only; omega)⟩ (Nat.le_of_ble_eq_true rfl) rfl d_Qu_findBehind_53 (fun r z9 H locs hp V => ?_)
            obtain ⟨rfl, he9⟩ := hp
            rw [he9] at V
            refine W.eq (g2 := F0 m 56 ls [.int (gh_bi (qy_num (cb i))), .int (nI i)]) rfl ?_
            refine lv_if_eq (tgt := 63) hx hb d_Qu_findBehind_56 (by decide) (fun c512 => ?_) (fun c512 => ?_)
            · have c512 : (qy_num (cb i)) = false := gh_bi_0 c512
              refine lv_iconst (v := 1) hx hb d_Qu_findBehind_63 (by decide) ?_
              refine gn_iadd (a := i) (b := 1) hx hb d_Qu_findBehind_64 ?_
              refine lv_istore hx hb d_Qu_findBehind_65 hl (by decide) rfl (fun ls hl => ?_)
              have hl : lv_has ls 6 [(4, .int (nI (i + 1))), (3, .int (nI (cb i))), (0, .ref a), (1, .int (nI i)), (2, .int (nI dep))] := hl
              refine lv_iconst (v := 0) hx hb d_Qu_findBehind_67 (by decide) ?_
              refine lv_istore hx hb d_Qu_findBehind_68 hl (by decide) rfl (fun ls hl => ?_)
              have hl : lv_has ls 6 [(5, .int 0), (4, .int (nI (i + 1))), (3, .int (nI (cb i))), (0, .ref a), (1, .int (nI i)), (2, .int (nI dep))] := hl
              have hl : lv_has ls 6 [(5, .int 0), (4, .int (nI (i + 1))), (0, .ref a), (1, .int (nI i)), (2, .int (nI dep)), (3, .int (nI (cb i)))] := lv_sub hl [0, 1, 3, 4, 5, 2] rfl
              have hl : lv_has ls 6 [(5, .int (nI 0)), (4, .int (nI (i + 1))), (0, .ref a), (1, .int (nI i)), (2, .int (nI dep)), (3, .int (nI (cb i)))] := hl
              have hst : qy_loop (qy_run cb n d) (i * 3) (qy_parts (cb i)) 0 (i + 1) bg = qy_run cb n (d + 1) i bg := by
                conv => rhs; unfold qy_run
                rw [if_pos ⟨by omega, by omega, by assumption⟩]
                simp [c510, c511, c512]
              have hpl : i + 1 ≤ 60 := by
                have hh := w_has_le (cb := cb) (i := i) hn (by omega) (by assumption)
                simp [c510, c511, c512] at hh
                omega
              exact loop (qy_parts (cb i)) 0 (i + 1) bg f H locs ls (by omega) hpl hbg gh_fr.rf V hl hst hcb19 (by omega)
            · have c512 : (qy_num (cb i)) = true := gh_bi_1 c512
              refine lv_iconst (v := 2) hx hb d_Qu_findBehind_59 (by decide) ?_
              refine lv_goto (tgt := 64) hx hb d_Qu_findBehind_60 (by decide) ?_
              refine gn_iadd (a := i) (b := 2) hx hb d_Qu_findBehind_64 ?_
              refine lv_istore hx hb d_Qu_findBehind_65 hl (by decide) rfl (fun ls hl => ?_)
              have hl : lv_has ls 6 [(4, .int (nI (i + 2))), (3, .int (nI (cb i))), (0, .ref a), (1, .int (nI i)), (2, .int (nI dep))] := hl
              refine lv_iconst (v := 0) hx hb d_Qu_findBehind_67 (by decide) ?_
              refine lv_istore hx hb d_Qu_findBehind_68 hl (by decide) rfl (fun ls hl => ?_)
              have hl : lv_has ls 6 [(5, .int 0), (4, .int (nI (i + 2))), (3, .int (nI (cb i))), (0, .ref a), (1, .int (nI i)), (2, .int (nI dep))] := hl
              have hl : lv_has ls 6 [(5, .int 0), (4, .int (nI (i + 2))), (0, .ref a), (1, .int (nI i)), (2, .int (nI dep)), (3, .int (nI (cb i)))] := lv_sub hl [0, 1, 3, 4, 5, 2] rfl
              have hl : lv_has ls 6 [(5, .int (nI 0)), (4, .int (nI (i + 2))), (0, .ref a), (1, .int (nI i)), (2, .int (nI dep)), (3, .int (nI (cb i)))] := hl
              have hst : qy_loop (qy_run cb n d) (i * 3) (qy_parts (cb i)) 0 (i + 2) bg = qy_run cb n (d + 1) i bg := by
                conv => rhs; unfold qy_run
                rw [if_pos ⟨by omega, by omega, by assumption⟩]
                simp [c510, c511, c512]
              have hpl : i + 2 ≤ 60 := by
                have hh := w_has_le (cb := cb) (i := i) hn (by omega) (by assumption)
                simp [c510, c511, c512] at hh
                omega
              exact loop (qy_parts (cb i)) 0 (i + 2) bg f H locs ls (by omega) hpl hbg gh_fr.rf V hl hst hcb19 (by omega)
        · have c510 : (qy_has cb n i) = false := gh_bi_0 c510
          refine lv_iconst (v := (-1)) hx hb d_Qu_findBehind_35 (by decide) ?_
          refine gh_reti hAe C V hr hlocks d_Qu_findBehind_36 (by first | decide | omega | (dsimp only; omega)) (by first | decide | omega | (dsimp only; omega)) ?_
          have hq9 : qy_run cb n (d + 1) i bg = (none, bg) := by unfold qy_run; rw [if_neg (by first | (intro z; omega) | (intro z; simp_all))]
          rw [hq9]
          exact ⟨rfl, hbg, gh_fr.rf⟩
