/-! areSame and isSameAs. Printed by wip/whole/gen_same.py. -/
theorem nI_n0 {j : Nat} (h : j < 2 ^ 31) : ¬ nI j < 0 := by rw [show (0 : Int32) = nI 0 from rfl, gq_lt h (by decide)]; omega
theorem d_Va_areSame_0 : decode b_Va_areSame 0 = .ok (.iload_n 2, 1) := by decide +kernel
theorem d_Va_areSame_1 : decode b_Va_areSame 1 = .ok (.bipush 7, 2) := by decide +kernel
theorem d_Va_areSame_3 : decode b_Va_areSame 3 = .ok (.if_icmp .gt 27, 3) := by decide +kernel
theorem d_Va_areSame_6 : decode b_Va_areSame 6 = .ok (.aload_n 0, 1) := by decide +kernel
theorem d_Va_areSame_7 : decode b_Va_areSame 7 = .ok (.getfield 7, 3) := by decide +kernel
theorem d_Va_areSame_10 : decode b_Va_areSame 10 = .ok (.aload_n 1, 1) := by decide +kernel
theorem d_Va_areSame_11 : decode b_Va_areSame 11 = .ok (.getfield 7, 3) := by decide +kernel
theorem d_Va_areSame_14 : decode b_Va_areSame 14 = .ok (.if_icmp .ne 16, 3) := by decide +kernel
theorem d_Va_areSame_17 : decode b_Va_areSame 17 = .ok (.aload_n 0, 1) := by decide +kernel
theorem d_Va_areSame_18 : decode b_Va_areSame 18 = .ok (.getfield 25, 3) := by decide +kernel
theorem d_Va_areSame_21 : decode b_Va_areSame 21 = .ok (.arraylength, 1) := by decide +kernel
theorem d_Va_areSame_22 : decode b_Va_areSame 22 = .ok (.aload_n 1, 1) := by decide +kernel
theorem d_Va_areSame_23 : decode b_Va_areSame 23 = .ok (.getfield 25, 3) := by decide +kernel
theorem d_Va_areSame_26 : decode b_Va_areSame 26 = .ok (.arraylength, 1) := by decide +kernel
theorem d_Va_areSame_27 : decode b_Va_areSame 27 = .ok (.if_icmp .eq 5, 3) := by decide +kernel
theorem d_Va_areSame_30 : decode b_Va_areSame 30 = .ok (.iconst 0, 1) := by decide +kernel
theorem d_Va_areSame_31 : decode b_Va_areSame 31 = .ok (.ireturn, 1) := by decide +kernel
theorem d_Va_areSame_32 : decode b_Va_areSame 32 = .ok (.aload_n 0, 1) := by decide +kernel
theorem d_Va_areSame_33 : decode b_Va_areSame 33 = .ok (.getfield 13, 3) := by decide +kernel
theorem d_Va_areSame_36 : decode b_Va_areSame 36 = .ok (.aload_n 1, 1) := by decide +kernel
theorem d_Va_areSame_37 : decode b_Va_areSame 37 = .ok (.getfield 13, 3) := by decide +kernel
theorem d_Va_areSame_40 : decode b_Va_areSame 40 = .ok (.lcmp, 1) := by decide +kernel
theorem d_Va_areSame_41 : decode b_Va_areSame 41 = .ok (.ifCond .ne 17, 3) := by decide +kernel
theorem d_Va_areSame_44 : decode b_Va_areSame 44 = .ok (.aload_n 0, 1) := by decide +kernel
theorem d_Va_areSame_45 : decode b_Va_areSame 45 = .ok (.getfield 17, 3) := by decide +kernel
theorem d_Va_areSame_48 : decode b_Va_areSame 48 = .ok (.aload_n 1, 1) := by decide +kernel
theorem d_Va_areSame_49 : decode b_Va_areSame 49 = .ok (.getfield 17, 3) := by decide +kernel
theorem d_Va_areSame_52 : decode b_Va_areSame 52 = .ok (.invokestatic 34, 3) := by decide +kernel
theorem d_Va_areSame_55 : decode b_Va_areSame 55 = .ok (.ifCond .eq 5, 3) := by decide +kernel
theorem d_Va_areSame_58 : decode b_Va_areSame 58 = .ok (.iconst 0, 1) := by decide +kernel
theorem d_Va_areSame_59 : decode b_Va_areSame 59 = .ok (.ireturn, 1) := by decide +kernel
theorem d_Va_areSame_60 : decode b_Va_areSame 60 = .ok (.iconst 0, 1) := by decide +kernel
theorem d_Va_areSame_61 : decode b_Va_areSame 61 = .ok (.istore_n 3, 1) := by decide +kernel
theorem d_Va_areSame_62 : decode b_Va_areSame 62 = .ok (.iload_n 3, 1) := by decide +kernel
theorem d_Va_areSame_63 : decode b_Va_areSame 63 = .ok (.aload_n 0, 1) := by decide +kernel
theorem d_Va_areSame_64 : decode b_Va_areSame 64 = .ok (.getfield 25, 3) := by decide +kernel
theorem d_Va_areSame_67 : decode b_Va_areSame 67 = .ok (.arraylength, 1) := by decide +kernel
theorem d_Va_areSame_68 : decode b_Va_areSame 68 = .ok (.if_icmp .ge 63, 3) := by decide +kernel
theorem d_Va_areSame_71 : decode b_Va_areSame 71 = .ok (.aload_n 0, 1) := by decide +kernel
theorem d_Va_areSame_72 : decode b_Va_areSame 72 = .ok (.getfield 7, 3) := by decide +kernel
theorem d_Va_areSame_75 : decode b_Va_areSame 75 = .ok (.bipush 6, 2) := by decide +kernel
theorem d_Va_areSame_77 : decode b_Va_areSame 77 = .ok (.if_icmp .ne 16, 3) := by decide +kernel
theorem d_Va_areSame_80 : decode b_Va_areSame 80 = .ok (.aload_n 1, 1) := by decide +kernel
theorem d_Va_areSame_81 : decode b_Va_areSame 81 = .ok (.aload_n 0, 1) := by decide +kernel
theorem d_Va_areSame_82 : decode b_Va_areSame 82 = .ok (.getfield 21, 3) := by decide +kernel
theorem d_Va_areSame_85 : decode b_Va_areSame 85 = .ok (.iload_n 3, 1) := by decide +kernel
theorem d_Va_areSame_86 : decode b_Va_areSame 86 = .ok (.aaload, 1) := by decide +kernel
theorem d_Va_areSame_87 : decode b_Va_areSame 87 = .ok (.invokevirtual 42, 3) := by decide +kernel
theorem d_Va_areSame_90 : decode b_Va_areSame 90 = .ok (.goto 4, 3) := by decide +kernel
theorem d_Va_areSame_93 : decode b_Va_areSame 93 = .ok (.iload_n 3, 1) := by decide +kernel
theorem d_Va_areSame_94 : decode b_Va_areSame 94 = .ok (.istore 4, 2) := by decide +kernel
theorem d_Va_areSame_96 : decode b_Va_areSame 96 = .ok (.iload 4, 2) := by decide +kernel
theorem d_Va_areSame_98 : decode b_Va_areSame 98 = .ok (.ifCond .lt 25, 3) := by decide +kernel
theorem d_Va_areSame_101 : decode b_Va_areSame 101 = .ok (.aload_n 0, 1) := by decide +kernel
theorem d_Va_areSame_102 : decode b_Va_areSame 102 = .ok (.getfield 25, 3) := by decide +kernel
theorem d_Va_areSame_105 : decode b_Va_areSame 105 = .ok (.iload_n 3, 1) := by decide +kernel
theorem d_Va_areSame_106 : decode b_Va_areSame 106 = .ok (.aaload, 1) := by decide +kernel
theorem d_Va_areSame_107 : decode b_Va_areSame 107 = .ok (.aload_n 1, 1) := by decide +kernel
theorem d_Va_areSame_108 : decode b_Va_areSame 108 = .ok (.getfield 25, 3) := by decide +kernel
theorem d_Va_areSame_111 : decode b_Va_areSame 111 = .ok (.iload 4, 2) := by decide +kernel
theorem d_Va_areSame_113 : decode b_Va_areSame 113 = .ok (.aaload, 1) := by decide +kernel
theorem d_Va_areSame_114 : decode b_Va_areSame 114 = .ok (.iload_n 2, 1) := by decide +kernel
theorem d_Va_areSame_115 : decode b_Va_areSame 115 = .ok (.iconst 1, 1) := by decide +kernel
theorem d_Va_areSame_116 : decode b_Va_areSame 116 = .ok (.iadd, 1) := by decide +kernel
theorem d_Va_areSame_117 : decode b_Va_areSame 117 = .ok (.invokestatic 38, 3) := by decide +kernel
theorem d_Va_areSame_120 : decode b_Va_areSame 120 = .ok (.ifCond .ne 5, 3) := by decide +kernel
theorem d_Va_areSame_123 : decode b_Va_areSame 123 = .ok (.iconst 0, 1) := by decide +kernel
theorem d_Va_areSame_124 : decode b_Va_areSame 124 = .ok (.ireturn, 1) := by decide +kernel
theorem d_Va_areSame_125 : decode b_Va_areSame 125 = .ok (.iinc 3 1, 3) := by decide +kernel
theorem d_Va_areSame_128 : decode b_Va_areSame 128 = .ok (.goto (-66), 3) := by decide +kernel
theorem d_Va_areSame_131 : decode b_Va_areSame 131 = .ok (.iconst 1, 1) := by decide +kernel
theorem d_Va_areSame_132 : decode b_Va_areSame 132 = .ok (.ireturn, 1) := by decide +kernel
set_option maxHeartbeats 4000000 in
set_option maxRecDepth 100000 in
theorem c_Va_areSame (l : Launch) (E : gh_E) (P : Nat → Prop) : ∀ (n sz : Nat) (f : gh_F) (x y dep : Nat) (X Y : vt), dep + n = 8 → cv E P f n x X → vo n X → cv E P f n y Y → vo n Y → gh_M l y_Va_areSame b_Va_areSame 5 (some .boolean) E sz [.ref x, .ref y, .int (nI dep)] f { frames := 3 + n, cells := 0, slots := 0, locals := 60 + 40 * n } (fun r g => r = some (.int (gh_bi (vt_sm n X Y))) ∧ g = f) := by
  intro n
  induction n with
  | zero => intro sz f x y dep X Y _ h; exact h.elim
  | succ n ihn =>
    intro sz f x y dep X Y hdep hv1 hv2 hy1 hy2
    have ho := vo_o.mp hv2
    have hk6 := ho.1
    have hll := ho.2.2.2.1.1
    have hc16 := ho.2.2.2.2.2.2.1
    have hql := ho.2.2.2.2.1
    have hqk := ho.2.2.2.2.2.2.2.2.2.2.1
    have hsub := ho.2.2.2.2.2.2.2.2.2.2.2
    have hoy := vo_o.mp hy2
    have hk6y := hoy.1
    have hlly := hoy.2.2.2.1.1
    have hc16y := hoy.2.2.2.2.2.2.1
    have hqly := hoy.2.2.2.2.1
    have hsuby := hoy.2.2.2.2.2.2.2.2.2.2.2
    refine gh_open (by decide) (Nat.le_of_ble_eq_true rfl) ?_
    intro p e s m args below meth c A ls hAe C V hr hlocks hname hl
    have hx := C.1
    have hb := C.2.1
    have hl : lv_has ls 5 [(0, .ref x), (1, .ref y), (2, .int (nI dep))] := hl
    obtain ⟨la_1, ka_1, ia_1, gk_1, gi_1, K_1, B_1, hp_1, h0_1, h1_1, h2_1, h3_1, h4_1, h5_1⟩ := cv_o.mp hv1
    obtain ⟨la_2, ka_2, ia_2, gk_2, gi_2, K_2, B_2, hp_2, h0_2, h1_2, h2_2, h3_2, h4_2, h5_2⟩ := cv_o.mp hy1
    refine lv_iload_n hx hb d_Va_areSame_0 rfl (lv_at hl 2 rfl) ?_
    refine lv_bipush (v := 7) hx hb d_Va_areSame_1 (by decide) ?_
    refine lv_icmp_gt (tgt := 30) hx hb d_Va_areSame_3 (by decide) (fun c3 => absurd c3 (show ¬ (7 : Int32) < nI dep from nI_nlt (a := 7) (b := dep) (by omega) (by decide))) (fun c3 => ?_)
    refine lv_aload_n hx hb d_Va_areSame_6 rfl (lv_at hl 0 rfl) ?_
    refine gh_get C V h0_1 gc_Va gi_Va 0 (by decide) f_Va_7 rfl rfl d_Va_areSame_7 ?_
    refine lv_aload_n hx hb d_Va_areSame_10 rfl (lv_at hl 1 rfl) ?_
    refine gh_get C V h0_2 gc_Va gi_Va 0 (by decide) f_Va_7 rfl rfl d_Va_areSame_11 ?_
    refine lv_icmp_ne (tgt := 30) hx hb d_Va_areSame_14 (by decide) (fun c4 => ?_) (fun c4 => ?_)
    · have c4 : ¬ (vt_k X) = (vt_k Y) := by rw [← gq_eq (a := vt_k X) (b := vt_k Y) (by omega) (by omega)]; exact c4
      refine lv_iconst (v := 0) hx hb d_Va_areSame_30 (by decide) ?_
      refine gh_retz hAe C V hr (by first | rfl | exact gh_bi_nar _ | decide) hlocks d_Va_areSame_31 (by first | decide | omega | (dsimp only; omega)) (by first | decide | omega | (dsimp only; omega)) ?_
      exact ⟨by unfold vt_sm; rw [if_neg (fun z => c4 z.1)]; rfl, rfl⟩
    · have c4 : (vt_k X) = (vt_k Y) := by rw [← gq_eq (a := vt_k X) (b := vt_k Y) (by omega) (by omega)]; exact c4
      refine lv_aload_n hx hb d_Va_areSame_17 rfl (lv_at hl 0 rfl) ?_
      refine gh_get C V h0_1 gc_Va gi_Va 4 (by decide) f_Va_25 rfl rfl d_Va_areSame_18 ?_
      refine gh_alen (t0 := 4) C V rfl h3_1 (v := nI (vt_c X)) rfl d_Va_areSame_21 ?_
      refine lv_aload_n hx hb d_Va_areSame_22 rfl (lv_at hl 1 rfl) ?_
      refine gh_get C V h0_2 gc_Va gi_Va 4 (by decide) f_Va_25 rfl rfl d_Va_areSame_23 ?_
      refine gh_alen (t0 := 4) C V rfl h3_2 (v := nI (vt_c Y)) rfl d_Va_areSame_26 ?_
      refine lv_icmp_eq (tgt := 32) hx hb d_Va_areSame_27 (by decide) (fun c5 => ?_) (fun c5 => ?_)
      · have c5 : (vt_c X) = (vt_c Y) := by rw [← gq_eq (a := vt_c X) (b := vt_c Y) (by omega) (by omega)]; exact c5
        refine lv_aload_n hx hb d_Va_areSame_32 rfl (lv_at hl 0 rfl) ?_
        refine gh_get C V h0_1 gc_Va gi_Va 1 (by decide) f_Va_13 rfl rfl d_Va_areSame_33 ?_
        refine lv_aload_n hx hb d_Va_areSame_36 rfl (lv_at hl 1 rfl) ?_
        refine gh_get C V h0_2 gc_Va gi_Va 1 (by decide) f_Va_13 rfl rfl d_Va_areSame_37 ?_
        refine W.lcmp hx hb d_Va_areSame_40 ?_
        refine lv_if_ne (tgt := 58) hx hb d_Va_areSame_41 (by decide) (fun c6 => ?_) (fun c6 => ?_)
        · have c6 : ¬ (vt_n X) = (vt_n Y) := by rw [← lg_eq]; exact c6
          refine lv_iconst (v := 0) hx hb d_Va_areSame_58 (by decide) ?_
          refine gh_retz hAe C V hr (by first | rfl | exact gh_bi_nar _ | decide) hlocks d_Va_areSame_59 (by first | decide | omega | (dsimp only; omega)) (by first | decide | omega | (dsimp only; omega)) ?_
          exact ⟨by unfold vt_sm; rw [if_neg (fun z => c6 z.2.2.1)]; rfl, rfl⟩
        · have c6 : (vt_n X) = (vt_n Y) := by rw [← lg_eq]; exact c6
          refine lv_aload_n hx hb d_Va_areSame_44 rfl (lv_at hl 0 rfl) ?_
          refine gh_get C V h0_1 gc_Va gi_Va 2 (by decide) f_Va_17 rfl rfl d_Va_areSame_45 ?_
          refine lv_aload_n hx hb d_Va_areSame_48 rfl (lv_at hl 1 rfl) ?_
          refine gh_get C V h0_2 gc_Va gi_Va 2 (by decide) f_Va_17 rfl rfl d_Va_areSame_49 ?_
          refine gh_callS C V hl.1 m_Va_order l_Va_34 (c_Va_order l E _ f P la_1 la_2 (vt_l X) (vt_l Y) h1_1.1 h1_2.1 hll hlly) rfl ⟨by first | decide | omega | (dsimp only; omega), by first | decide | omega | (dsimp only; omega)⟩ ⟨by first | decide | omega | (dsimp only; omega), by first | decide | omega | (dsimp only; omega)⟩ (Nat.le_of_ble_eq_true rfl) rfl d_Va_areSame_52 (fun r z9 H locs hp V => ?_)
          obtain ⟨rfl, he9⟩ := hp
          rw [he9] at V
          refine W.eq (g2 := F0 m 55 ls [.int (vt_ord (vt_l X) (vt_l Y))]) rfl ?_
          refine lv_if_eq (tgt := 60) hx hb d_Va_areSame_55 (by decide) (fun c7 => ?_) (fun c7 => ?_)
          · refine lv_iconst (v := 0) hx hb d_Va_areSame_60 (by decide) ?_
            refine lv_istore_n hx hb d_Va_areSame_61 rfl hl (by decide) rfl (fun ls hl => ?_)
            have hl : lv_has ls 5 [(3, .int 0), (0, .ref x), (1, .ref y), (2, .int (nI dep))] := hl
            have hst0 : vt_sml (vt_sm n) X Y (vt_c X) 0 = vt_sm (n + 1) X Y := by conv => rhs; unfold vt_sm; rw [if_pos ⟨c4, c5, c6, c7⟩]
            have hkk := c4
            have hcc := c5
            have hl : lv_has ls 5 [(3, .int 0), (0, .ref x), (1, .ref y), (2, .int (nI dep))] := lv_sub hl [0, 1, 2, 3] rfl
            have hl : lv_has ls 5 [(3, .int (nI 0)), (0, .ref x), (1, .ref y), (2, .int (nI dep))] := hl
            have loop : ∀ (n9 i : Nat) (H : Heap) (locs : List Loc) (ls : Array Slot), i + n9 = vt_c X → vt_sml (vt_sm n) X Y n9 i = vt_sm (n + 1) X Y → gh_V E A f s H locs → lv_has ls 5 [(3, .int (nI i)), (0, .ref x), (1, .ref y), (2, .int (nI dep))] → W p l e { frames := 3 + (n + 1), cells := 0, slots := 0, locals := 60 + 40 * (n + 1) } s m args below meth c H locs 0 0 (MQ below (gh_Q E f (fun r g => r = some (.int (gh_bi (vt_sm (n + 1) X Y))) ∧ g = f)) args s 0 0 A) (F0 m 62 ls []) := by
              intro n9
              induction n9 with
              | zero =>
                intro i H locs ls hi hst V hl
                refine lv_iload_n hx hb d_Va_areSame_62 rfl (lv_at hl 0 rfl) ?_
                refine lv_aload_n hx hb d_Va_areSame_63 rfl (lv_at hl 1 rfl) ?_
                refine gh_get C V h0_1 gc_Va gi_Va 4 (by decide) f_Va_25 rfl rfl d_Va_areSame_64 ?_
                refine gh_alen (t0 := 4) C V rfl h3_1 (v := nI (vt_c X)) rfl d_Va_areSame_67 ?_
                refine lv_icmp_ge (tgt := 131) hx hb d_Va_areSame_68 (by decide) (fun c8 => ?_) (fun c8 => absurd (nI_le (by omega) (by omega)) c8)
                refine lv_iconst (v := 1) hx hb d_Va_areSame_131 (by decide) ?_
                refine gh_retz hAe C V hr (by first | rfl | exact gh_bi_nar _ | decide) hlocks d_Va_areSame_132 (by first | decide | omega | (dsimp only; omega)) (by first | decide | omega | (dsimp only; omega)) ?_
                exact ⟨by rw [← hst]; rfl, rfl⟩
              | succ n9 ih =>
                intro i H locs ls hi hst V hl
                refine lv_iload_n hx hb d_Va_areSame_62 rfl (lv_at hl 0 rfl) ?_
                refine lv_aload_n hx hb d_Va_areSame_63 rfl (lv_at hl 1 rfl) ?_
                refine gh_get C V h0_1 gc_Va gi_Va 4 (by decide) f_Va_25 rfl rfl d_Va_areSame_64 ?_
                refine gh_alen (t0 := 4) C V rfl h3_1 (v := nI (vt_c X)) rfl d_Va_areSame_67 ?_
                refine lv_icmp_ge (tgt := 131) hx hb d_Va_areSame_68 (by decide) (fun c9 => absurd c9 (nI_ge (by omega) (by omega))) (fun c9 => ?_)
                refine lv_aload_n hx hb d_Va_areSame_71 rfl (lv_at hl 1 rfl) ?_
                refine gh_get C V h0_1 gc_Va gi_Va 0 (by decide) f_Va_7 rfl rfl d_Va_areSame_72 ?_
                refine lv_bipush (v := 6) hx hb d_Va_areSame_75 (by decide) ?_
                refine lv_icmp_ne (tgt := 93) hx hb d_Va_areSame_77 (by decide) (fun c10 => ?_) (fun c10 => ?_)
                · have c10 : ¬ (vt_k X) = 6 := by rw [← gq_eq (a := vt_k X) (b := 6) (by omega) (by omega)]; exact c10
                  have hpl : vt_pl X Y i = some i := by unfold vt_pl; rw [if_neg (by omega)]
                  refine lv_iload_n hx hb d_Va_areSame_93 rfl (lv_at hl 0 rfl) ?_
                  refine lv_istore hx hb d_Va_areSame_94 hl (by decide) rfl (fun ls hl => ?_)
                  have hl : lv_has ls 5 [(4, .int (nI i)), (3, .int (nI i)), (0, .ref x), (1, .ref y), (2, .int (nI dep))] := hl
                  refine lv_iload hx hb d_Va_areSame_96 (lv_at hl 0 rfl) ?_
                  refine lv_if_lt (tgt := 123) hx hb d_Va_areSame_98 (by decide) (fun c11 => absurd c11 (nI_n0 (by omega))) (fun c11 => ?_)
                  refine lv_aload_n hx hb d_Va_areSame_101 rfl (lv_at hl 2 rfl) ?_
                  refine gh_get C V h0_1 gc_Va gi_Va 4 (by decide) f_Va_25 rfl rfl d_Va_areSame_102 ?_
                  refine lv_iload_n hx hb d_Va_areSame_105 rfl (lv_at hl 1 rfl) ?_
                  refine gn_aald (t0 := 4) (i := i) (v := (B_1 i)) C V rfl h3_1 (by omega) (by omega) (h5_1 i (by omega)).1 d_Va_areSame_106 ?_
                  refine lv_aload_n hx hb d_Va_areSame_107 rfl (lv_at hl 3 rfl) ?_
                  refine gh_get C V h0_2 gc_Va gi_Va 4 (by decide) f_Va_25 rfl rfl d_Va_areSame_108 ?_
                  refine lv_iload hx hb d_Va_areSame_111 (lv_at hl 0 rfl) ?_
                  refine gn_aald (t0 := 4) (i := i) (v := (B_2 i)) C V rfl h3_2 (by omega) (by omega) (h5_2 i (by omega)).1 d_Va_areSame_113 ?_
                  refine lv_iload_n hx hb d_Va_areSame_114 rfl (lv_at hl 4 rfl) ?_
                  refine lv_iconst (v := 1) hx hb d_Va_areSame_115 (by decide) ?_
                  refine gn_iadd (a := dep) (b := 1) hx hb d_Va_areSame_116 ?_
                  refine gh_callS C V hl.1 m_Va_areSame l_Va_38 (ihn _ f (B_1 i) (B_2 i) (dep + 1) (vt_s X i) (vt_s Y i) (by omega) (h5_1 i (by omega)).2 (hsub i (by omega)).2 (h5_2 i (by omega)).2 (hsuby i (by omega)).2) rfl ⟨by first | decide | omega | (dsimp only; omega), by first | decide | omega | (dsimp only; omega)⟩ ⟨by first | decide | omega | (dsimp only; omega), by first | decide | omega | (dsimp only; omega)⟩ (Nat.le_of_ble_eq_true rfl) rfl d_Va_areSame_117 (fun r z9 H locs hp V => ?_)
                  obtain ⟨rfl, he9⟩ := hp
                  rw [he9] at V
                  refine W.eq (g2 := F0 m 120 ls [.int (gh_bi (vt_sm n (vt_s X i) (vt_s Y i)))]) rfl ?_
                  refine lv_if_ne (tgt := 125) hx hb d_Va_areSame_120 (by decide) (fun c12 => ?_) (fun c12 => ?_)
                  · have c12 : (vt_sm n (vt_s X i) (vt_s Y i)) = true := gh_bi_1 c12
                    refine lv_iinc (k := 1) (v := (nI i) + 1) hx hb d_Va_areSame_125 hl rfl (by rfl) (by decide) rfl (fun ls hl => ?_)
                    have hl : lv_has ls 5 [(3, .int (nI (i + 1))), (4, .int (nI i)), (0, .ref x), (1, .ref y), (2, .int (nI dep))] := by rw [nI_succ]; exact hl
                    refine lv_goto (tgt := 62) hx hb d_Va_areSame_128 (by decide) ?_
                    have hl : lv_has ls 5 [(3, .int (nI (i + 1))), (0, .ref x), (1, .ref y), (2, .int (nI dep))] := lv_sub hl [0, 2, 3, 4] rfl
                    have hl : lv_has ls 5 [(3, .int (nI (i + 1))), (0, .ref x), (1, .ref y), (2, .int (nI dep))] := hl
                    exact ih (i + 1) H locs ls (by omega) (by rw [← hst, vt_sml, hpl]; simp only []; rw [if_pos c12]) V hl
                  · have c12 : (vt_sm n (vt_s X i) (vt_s Y i)) = false := gh_bi_0 c12
                    refine lv_iconst (v := 0) hx hb d_Va_areSame_123 (by decide) ?_
                    refine gh_retz hAe C V hr (by first | rfl | exact gh_bi_nar _ | decide) hlocks d_Va_areSame_124 (by first | decide | omega | (dsimp only; omega)) (by first | decide | omega | (dsimp only; omega)) ?_
                    exact ⟨by rw [← hst, vt_sml, hpl]; simp only []; rw [if_neg (by rw [c12]; decide)]; rfl, rfl⟩
                · have c10 : (vt_k X) = 6 := by rw [← gq_eq (a := vt_k X) (b := 6) (by omega) (by omega)]; exact c10
                  have hq6 : (vt_q X).length = vt_c X := by rw [hql, if_pos (by omega)]
                  have hq6y : (vt_q Y).length = vt_c Y := by rw [hqly, if_pos (by omega)]
                  refine lv_aload_n hx hb d_Va_areSame_80 rfl (lv_at hl 2 rfl) ?_
                  refine lv_aload_n hx hb d_Va_areSame_81 rfl (lv_at hl 1 rfl) ?_
                  refine gh_get C V h0_1 gc_Va gi_Va 3 (by decide) f_Va_21 rfl rfl d_Va_areSame_82 ?_
                  refine lv_iload_n hx hb d_Va_areSame_85 rfl (lv_at hl 0 rfl) ?_
                  refine gn_aald (t0 := 4) (i := i) (v := (K_1 i)) C V rfl h2_1 (by omega) (by omega) (h4_1 i (by omega)).1 d_Va_areSame_86 ?_
                  obtain ⟨la_13, ka_13, ia_13, gk_13, gi_13, hp_13, h0_13, h1_13, h2_13, h3_13⟩ := (h4_1 i (by omega)).2
                  have hpl0 : vt_pl X Y i = vt_find (vt_q Y) ((vt_q X).getD i []) := by unfold vt_pl; rw [if_pos (by omega)]
                  refine gh_callV C V hl.1 m_Va_placeOf l_Va_42 (c_Va_placeOf l E _ f P y Y (K_1 i) _ ((vt_q X).getD i []) _ _ _ _ _ _ n hy1 hy2 h0_13 h1_13.A (hqk i (by omega)).1) rfl h0_2 gc_Va ⟨by first | decide | omega | (dsimp only; omega), by first | decide | omega | (dsimp only; omega)⟩ ⟨by first | decide | omega | (dsimp only; omega), by first | decide | omega | (dsimp only; omega)⟩ (Nat.le_of_ble_eq_true rfl) rfl d_Va_areSame_87 (fun r z9 H locs hp V => ?_)
                  obtain ⟨rfl, he9⟩ := hp
                  rw [he9] at V
                  cases hF : vt_find (vt_q Y) ((vt_q X).getD i []) with
                  | none =>
                    have hpl : vt_pl X Y i = none := by rw [hpl0, hF]
                    refine W.eq (g2 := F0 m 90 ls [.int ((-1))]) rfl ?_
                    refine lv_goto (tgt := 94) hx hb d_Va_areSame_90 (by decide) ?_
                    refine lv_istore hx hb d_Va_areSame_94 hl (by decide) rfl (fun ls hl => ?_)
                    have hl : lv_has ls 5 [(4, .int ((-1))), (3, .int (nI i)), (0, .ref x), (1, .ref y), (2, .int (nI dep))] := hl
                    refine lv_iload hx hb d_Va_areSame_96 (lv_at hl 0 rfl) ?_
                    refine lv_if_lt (tgt := 123) hx hb d_Va_areSame_98 (by decide) (fun c14 => ?_) (fun c14 => absurd (by decide) c14)
                    refine lv_iconst (v := 0) hx hb d_Va_areSame_123 (by decide) ?_
                    refine gh_retz hAe C V hr (by first | rfl | exact gh_bi_nar _ | decide) hlocks d_Va_areSame_124 (by first | decide | omega | (dsimp only; omega)) (by first | decide | omega | (dsimp only; omega)) ?_
                    exact ⟨by rw [← hst, vt_sml, hpl]; rfl, rfl⟩
                  | some j =>
                    have hpl : vt_pl X Y i = some j := by rw [hpl0, hF]
                    have hj := vt_find_lt hF
                    refine W.eq (g2 := F0 m 90 ls [.int (nI j)]) rfl ?_
                    refine lv_goto (tgt := 94) hx hb d_Va_areSame_90 (by decide) ?_
                    refine lv_istore hx hb d_Va_areSame_94 hl (by decide) rfl (fun ls hl => ?_)
                    have hl : lv_has ls 5 [(4, .int (nI j)), (3, .int (nI i)), (0, .ref x), (1, .ref y), (2, .int (nI dep))] := hl
                    refine lv_iload hx hb d_Va_areSame_96 (lv_at hl 0 rfl) ?_
                    refine lv_if_lt (tgt := 123) hx hb d_Va_areSame_98 (by decide) (fun c15 => absurd c15 (nI_n0 (by omega))) (fun c15 => ?_)
                    refine lv_aload_n hx hb d_Va_areSame_101 rfl (lv_at hl 2 rfl) ?_
                    refine gh_get C V h0_1 gc_Va gi_Va 4 (by decide) f_Va_25 rfl rfl d_Va_areSame_102 ?_
                    refine lv_iload_n hx hb d_Va_areSame_105 rfl (lv_at hl 1 rfl) ?_
                    refine gn_aald (t0 := 4) (i := i) (v := (B_1 i)) C V rfl h3_1 (by omega) (by omega) (h5_1 i (by omega)).1 d_Va_areSame_106 ?_
                    refine lv_aload_n hx hb d_Va_areSame_107 rfl (lv_at hl 3 rfl) ?_
                    refine gh_get C V h0_2 gc_Va gi_Va 4 (by decide) f_Va_25 rfl rfl d_Va_areSame_108 ?_
                    refine lv_iload hx hb d_Va_areSame_111 (lv_at hl 0 rfl) ?_
                    refine gn_aald (t0 := 4) (i := j) (v := (B_2 j)) C V rfl h3_2 (by omega) (by omega) (h5_2 j (by omega)).1 d_Va_areSame_113 ?_
                    refine lv_iload_n hx hb d_Va_areSame_114 rfl (lv_at hl 4 rfl) ?_
                    refine lv_iconst (v := 1) hx hb d_Va_areSame_115 (by decide) ?_
                    refine gn_iadd (a := dep) (b := 1) hx hb d_Va_areSame_116 ?_
                    refine gh_callS C V hl.1 m_Va_areSame l_Va_38 (ihn _ f (B_1 i) (B_2 j) (dep + 1) (vt_s X i) (vt_s Y j) (by omega) (h5_1 i (by omega)).2 (hsub i (by omega)).2 (h5_2 j (by omega)).2 (hsuby j (by omega)).2) rfl ⟨by first | decide | omega | (dsimp only; omega), by first | decide | omega | (dsimp only; omega)⟩ ⟨by first | decide | omega | (dsimp only; omega), by first | decide | omega | (dsimp only; omega)⟩ (Nat.le_of_ble_eq_true rfl) rfl d_Va_areSame_117 (fun r z9 H locs hp V => ?_)
                    obtain ⟨rfl, he9⟩ := hp
                    rw [he9] at V
                    refine W.eq (g2 := F0 m 120 ls [.int (gh_bi (vt_sm n (vt_s X i) (vt_s Y j)))]) rfl ?_
                    refine lv_if_ne (tgt := 125) hx hb d_Va_areSame_120 (by decide) (fun c16 => ?_) (fun c16 => ?_)
                    · have c16 : (vt_sm n (vt_s X i) (vt_s Y j)) = true := gh_bi_1 c16
                      refine lv_iinc (k := 1) (v := (nI i) + 1) hx hb d_Va_areSame_125 hl rfl (by rfl) (by decide) rfl (fun ls hl => ?_)
                      have hl : lv_has ls 5 [(3, .int (nI (i + 1))), (4, .int (nI j)), (0, .ref x), (1, .ref y), (2, .int (nI dep))] := by rw [nI_succ]; exact hl
                      refine lv_goto (tgt := 62) hx hb d_Va_areSame_128 (by decide) ?_
                      have hl : lv_has ls 5 [(3, .int (nI (i + 1))), (0, .ref x), (1, .ref y), (2, .int (nI dep))] := lv_sub hl [0, 2, 3, 4] rfl
                      have hl : lv_has ls 5 [(3, .int (nI (i + 1))), (0, .ref x), (1, .ref y), (2, .int (nI dep))] := hl
                      exact ih (i + 1) H locs ls (by omega) (by rw [← hst, vt_sml, hpl]; simp only []; rw [if_pos c16]) V hl
                    · have c16 : (vt_sm n (vt_s X i) (vt_s Y j)) = false := gh_bi_0 c16
                      refine lv_iconst (v := 0) hx hb d_Va_areSame_123 (by decide) ?_
                      refine gh_retz hAe C V hr (by first | rfl | exact gh_bi_nar _ | decide) hlocks d_Va_areSame_124 (by first | decide | omega | (dsimp only; omega)) (by first | decide | omega | (dsimp only; omega)) ?_
                      exact ⟨by rw [← hst, vt_sml, hpl]; simp only []; rw [if_neg (by rw [c16]; decide)]; rfl, rfl⟩
            exact loop (vt_c X) 0 _ _ ls (by omega) hst0 V hl
          · refine lv_iconst (v := 0) hx hb d_Va_areSame_58 (by decide) ?_
            refine gh_retz hAe C V hr (by first | rfl | exact gh_bi_nar _ | decide) hlocks d_Va_areSame_59 (by first | decide | omega | (dsimp only; omega)) (by first | decide | omega | (dsimp only; omega)) ?_
            exact ⟨by unfold vt_sm; rw [if_neg (fun z => c7 z.2.2.2)]; rfl, rfl⟩
      · have c5 : ¬ (vt_c X) = (vt_c Y) := by rw [← gq_eq (a := vt_c X) (b := vt_c Y) (by omega) (by omega)]; exact c5
        refine lv_iconst (v := 0) hx hb d_Va_areSame_30 (by decide) ?_
        refine gh_retz hAe C V hr (by first | rfl | exact gh_bi_nar _ | decide) hlocks d_Va_areSame_31 (by first | decide | omega | (dsimp only; omega)) (by first | decide | omega | (dsimp only; omega)) ?_
        exact ⟨by unfold vt_sm; rw [if_neg (fun z => c5 z.2.1)]; rfl, rfl⟩
theorem d_Va_isSameAs_0 : decode b_Va_isSameAs 0 = .ok (.aload_n 0, 1) := by decide +kernel
theorem d_Va_isSameAs_1 : decode b_Va_isSameAs 1 = .ok (.aload_n 1, 1) := by decide +kernel
theorem d_Va_isSameAs_2 : decode b_Va_isSameAs 2 = .ok (.iconst 0, 1) := by decide +kernel
theorem d_Va_isSameAs_3 : decode b_Va_isSameAs 3 = .ok (.invokestatic 38, 3) := by decide +kernel
theorem d_Va_isSameAs_6 : decode b_Va_isSameAs 6 = .ok (.ireturn, 1) := by decide +kernel
set_option maxHeartbeats 4000000 in
set_option maxRecDepth 100000 in
theorem c_Va_isSameAs (l : Launch) (E : gh_E) (sz : Nat) (f : gh_F) (P : Nat → Prop) (a : Nat) (X : vt) (b : Nat) (Y : vt) (hv : cw E P f a X) (hy : cw E P f b Y) : gh_M l y_Va_isSameAs b_Va_isSameAs 2 (some .boolean) E sz [.ref a, .ref b] f { frames := 12, cells := 0, slots := 0, locals := 420 } (fun r g => r = some (.int (gh_bi (vt_sm 8 X Y))) ∧ g = f) := by
  refine gh_open (by decide) (Nat.le_of_ble_eq_true rfl) ?_
  intro p e s m args below meth c A ls hAe C V hr hlocks hname hl
  have hx := C.1
  have hb := C.2.1
  have hl : lv_has ls 2 [(0, .ref a), (1, .ref b)] := hl
  refine lv_aload_n hx hb d_Va_isSameAs_0 rfl (lv_at hl 0 rfl) ?_
  refine lv_aload_n hx hb d_Va_isSameAs_1 rfl (lv_at hl 1 rfl) ?_
  refine lv_iconst (v := 0) hx hb d_Va_isSameAs_2 (by decide) ?_
  refine gh_callS C V hl.1 m_Va_areSame l_Va_38 (c_Va_areSame l E P 8 _ f a b 0 X Y rfl hv.1 hv.2 hy.1 hy.2) rfl ⟨by first | decide | omega | (dsimp only; omega), by first | decide | omega | (dsimp only; omega)⟩ ⟨by first | decide | omega | (dsimp only; omega), by first | decide | omega | (dsimp only; omega)⟩ (Nat.le_of_ble_eq_true rfl) rfl d_Va_isSameAs_3 (fun r z9 H locs hp V => ?_)
  obtain ⟨rfl, he9⟩ := hp
  rw [he9] at V
  refine W.eq (g2 := F0 m 6 ls [.int (gh_bi (vt_sm 8 X Y))]) rfl ?_
  refine gh_retz hAe C V hr (by first | rfl | exact gh_bi_nar _ | decide) hlocks d_Va_isSameAs_6 (by first | decide | omega | (dsimp only; omega)) (by first | decide | omega | (dsimp only; omega)) ?_
  exact ⟨rfl, rfl⟩
