/-! Writer.writeItems, writeValue, write. Printed by wip/whole/gen_wr3.py. -/
theorem wr_m_o {g : vt → List Int32} {X : vt} {m i : Nat} : wr_m g X (m + 1) i = (if i = 0 then [] else [44]) ++ (if vt_k X = 6 then wr_t ((vt_q X).getD i []) ++ [58] else []) ++ g (vt_s X i) ++ wr_m g X m (i + 1) := rfl
theorem wr_v_o {n : Nat} {X : vt} : wr_v (n + 1) X = (if vt_k X = 0 then [110, 117, 108, 108] else if vt_k X = 1 then [102, 97, 108, 115, 101] else if vt_k X = 2 then [116, 114, 117, 101] else if vt_k X = 3 then wr_i (vt_n X) else if vt_k X = 4 then wr_t (vt_l X) else [if vt_k X = 6 then 123 else 91] ++ wr_m (wr_v n) X (vt_c X) 0 ++ [if vt_k X = 6 then 125 else 93]) := rfl
/-- the contract of writeValue, with n levels left -/
def wV (l : Launch) (E : gh_E) (P : Nat → Prop) (n : Nat) : Prop := ∀ (sz : Nat) (f : gh_F) (a dg : Nat) (wt : Int32) (st : Nat × Int32) (v dep : Nat) (X : vt), dep + n = 8 → cv E P f n v X → vo n X → ¬ P a → ¬ P dg → wS E f a dg wt st → gh_M l y_Wr_writeValue b_Wr_writeValue 3 none E sz [.ref a, .ref v, .int (nI dep)] f { frames := 14 + 2 * n, cells := 0, slots := 0, locals := 300 + 60 * n } (fun r g => r = none ∧ wS E g a dg wt (wr_l wt st (wr_v n X)) ∧ gh_fr f g (wM a dg))
theorem d_Wr_writeItems_0 : decode b_Wr_writeItems 0 = .ok (.aload_n 1, 1) := by decide +kernel
theorem d_Wr_writeItems_1 : decode b_Wr_writeItems 1 = .ok (.getfield 30, 3) := by decide +kernel
theorem d_Wr_writeItems_4 : decode b_Wr_writeItems 4 = .ok (.bipush 6, 2) := by decide +kernel
theorem d_Wr_writeItems_6 : decode b_Wr_writeItems 6 = .ok (.if_icmp .ne 7, 3) := by decide +kernel
theorem d_Wr_writeItems_9 : decode b_Wr_writeItems 9 = .ok (.iconst 1, 1) := by decide +kernel
theorem d_Wr_writeItems_10 : decode b_Wr_writeItems 10 = .ok (.goto 4, 3) := by decide +kernel
theorem d_Wr_writeItems_13 : decode b_Wr_writeItems 13 = .ok (.iconst 0, 1) := by decide +kernel
theorem d_Wr_writeItems_14 : decode b_Wr_writeItems 14 = .ok (.istore_n 3, 1) := by decide +kernel
theorem d_Wr_writeItems_15 : decode b_Wr_writeItems 15 = .ok (.aload_n 0, 1) := by decide +kernel
theorem d_Wr_writeItems_16 : decode b_Wr_writeItems 16 = .ok (.iload_n 3, 1) := by decide +kernel
theorem d_Wr_writeItems_17 : decode b_Wr_writeItems 17 = .ok (.ifCond .eq 8, 3) := by decide +kernel
theorem d_Wr_writeItems_20 : decode b_Wr_writeItems 20 = .ok (.bipush 123, 2) := by decide +kernel
theorem d_Wr_writeItems_22 : decode b_Wr_writeItems 22 = .ok (.goto 5, 3) := by decide +kernel
theorem d_Wr_writeItems_25 : decode b_Wr_writeItems 25 = .ok (.bipush 91, 2) := by decide +kernel
theorem d_Wr_writeItems_27 : decode b_Wr_writeItems 27 = .ok (.invokevirtual 58, 3) := by decide +kernel
theorem d_Wr_writeItems_30 : decode b_Wr_writeItems 30 = .ok (.iconst 0, 1) := by decide +kernel
theorem d_Wr_writeItems_31 : decode b_Wr_writeItems 31 = .ok (.istore 4, 2) := by decide +kernel
theorem d_Wr_writeItems_33 : decode b_Wr_writeItems 33 = .ok (.iload 4, 2) := by decide +kernel
theorem d_Wr_writeItems_35 : decode b_Wr_writeItems 35 = .ok (.aload_n 1, 1) := by decide +kernel
theorem d_Wr_writeItems_36 : decode b_Wr_writeItems 36 = .ok (.getfield 62, 3) := by decide +kernel
theorem d_Wr_writeItems_39 : decode b_Wr_writeItems 39 = .ok (.arraylength, 1) := by decide +kernel
theorem d_Wr_writeItems_40 : decode b_Wr_writeItems 40 = .ok (.if_icmp .ge 55, 3) := by decide +kernel
theorem d_Wr_writeItems_43 : decode b_Wr_writeItems 43 = .ok (.iload 4, 2) := by decide +kernel
theorem d_Wr_writeItems_45 : decode b_Wr_writeItems 45 = .ok (.ifCond .le 9, 3) := by decide +kernel
theorem d_Wr_writeItems_48 : decode b_Wr_writeItems 48 = .ok (.aload_n 0, 1) := by decide +kernel
theorem d_Wr_writeItems_49 : decode b_Wr_writeItems 49 = .ok (.bipush 44, 2) := by decide +kernel
theorem d_Wr_writeItems_51 : decode b_Wr_writeItems 51 = .ok (.invokevirtual 58, 3) := by decide +kernel
theorem d_Wr_writeItems_54 : decode b_Wr_writeItems 54 = .ok (.iload_n 3, 1) := by decide +kernel
theorem d_Wr_writeItems_55 : decode b_Wr_writeItems 55 = .ok (.ifCond .eq 20, 3) := by decide +kernel
theorem d_Wr_writeItems_58 : decode b_Wr_writeItems 58 = .ok (.aload_n 0, 1) := by decide +kernel
theorem d_Wr_writeItems_59 : decode b_Wr_writeItems 59 = .ok (.aload_n 1, 1) := by decide +kernel
theorem d_Wr_writeItems_60 : decode b_Wr_writeItems 60 = .ok (.getfield 66, 3) := by decide +kernel
theorem d_Wr_writeItems_63 : decode b_Wr_writeItems 63 = .ok (.iload 4, 2) := by decide +kernel
theorem d_Wr_writeItems_65 : decode b_Wr_writeItems 65 = .ok (.aaload, 1) := by decide +kernel
theorem d_Wr_writeItems_66 : decode b_Wr_writeItems 66 = .ok (.invokevirtual 51, 3) := by decide +kernel
theorem d_Wr_writeItems_69 : decode b_Wr_writeItems 69 = .ok (.aload_n 0, 1) := by decide +kernel
theorem d_Wr_writeItems_70 : decode b_Wr_writeItems 70 = .ok (.bipush 58, 2) := by decide +kernel
theorem d_Wr_writeItems_72 : decode b_Wr_writeItems 72 = .ok (.invokevirtual 58, 3) := by decide +kernel
theorem d_Wr_writeItems_75 : decode b_Wr_writeItems 75 = .ok (.aload_n 0, 1) := by decide +kernel
theorem d_Wr_writeItems_76 : decode b_Wr_writeItems 76 = .ok (.aload_n 1, 1) := by decide +kernel
theorem d_Wr_writeItems_77 : decode b_Wr_writeItems 77 = .ok (.getfield 62, 3) := by decide +kernel
theorem d_Wr_writeItems_80 : decode b_Wr_writeItems 80 = .ok (.iload 4, 2) := by decide +kernel
theorem d_Wr_writeItems_82 : decode b_Wr_writeItems 82 = .ok (.aaload, 1) := by decide +kernel
theorem d_Wr_writeItems_83 : decode b_Wr_writeItems 83 = .ok (.iload_n 2, 1) := by decide +kernel
theorem d_Wr_writeItems_84 : decode b_Wr_writeItems 84 = .ok (.iconst 1, 1) := by decide +kernel
theorem d_Wr_writeItems_85 : decode b_Wr_writeItems 85 = .ok (.iadd, 1) := by decide +kernel
theorem d_Wr_writeItems_86 : decode b_Wr_writeItems 86 = .ok (.invokevirtual 24, 3) := by decide +kernel
theorem d_Wr_writeItems_89 : decode b_Wr_writeItems 89 = .ok (.iinc 4 1, 3) := by decide +kernel
theorem d_Wr_writeItems_92 : decode b_Wr_writeItems 92 = .ok (.goto (-59), 3) := by decide +kernel
theorem d_Wr_writeItems_95 : decode b_Wr_writeItems 95 = .ok (.aload_n 0, 1) := by decide +kernel
theorem d_Wr_writeItems_96 : decode b_Wr_writeItems 96 = .ok (.iload_n 3, 1) := by decide +kernel
theorem d_Wr_writeItems_97 : decode b_Wr_writeItems 97 = .ok (.ifCond .eq 8, 3) := by decide +kernel
theorem d_Wr_writeItems_100 : decode b_Wr_writeItems 100 = .ok (.bipush 125, 2) := by decide +kernel
theorem d_Wr_writeItems_102 : decode b_Wr_writeItems 102 = .ok (.goto 5, 3) := by decide +kernel
theorem d_Wr_writeItems_105 : decode b_Wr_writeItems 105 = .ok (.bipush 93, 2) := by decide +kernel
theorem d_Wr_writeItems_107 : decode b_Wr_writeItems 107 = .ok (.invokevirtual 58, 3) := by decide +kernel
theorem d_Wr_writeItems_110 : decode b_Wr_writeItems 110 = .ok (.return_, 1) := by decide +kernel
theorem nI_nle0 {i : Nat} (h : ¬ i = 0) (hi : i < 2 ^ 31) : ¬ nI i ≤ 0 := by rw [show (0 : Int32) = nI 0 from rfl]; exact nI_ge (by omega) hi
set_option maxHeartbeats 4000000 in
set_option maxRecDepth 100000 in
theorem c_Wr_writeItems (l : Launch) (E : gh_E) (P : Nat → Prop) (n : Nat) (ihn : wV l E P n) (sz : Nat) (f : gh_F) (a dg : Nat) (wt : Int32) (st : Nat × Int32) (v dep : Nat) (X : vt) (hdep : dep + (n + 1) = 8) (hv : cv E P f (n + 1) v X) (hvo : vo (n + 1) X) (hk5 : 5 ≤ vt_k X) (hPa : ¬ P a) (hPd : ¬ P dg) (hw : wS E f a dg wt st) : gh_M l y_Wr_writeItems b_Wr_writeItems 5 none E sz [.ref a, .ref v, .int (nI dep)] f { frames := 15 + 2 * n, cells := 0, slots := 0, locals := 330 + 60 * n } (fun r g => r = none ∧ wS E g a dg wt (wr_l wt st ([if vt_k X = 6 then 123 else 91] ++ wr_m (wr_v n) X (vt_c X) 0 ++ [if vt_k X = 6 then 125 else 93])) ∧ gh_fr f g (wM a dg)) := by
  refine gh_open (by decide) (Nat.le_of_ble_eq_true rfl) ?_
  intro p e s m args below meth c A ls hAe C V hr hlocks hname hl
  have hx := C.1
  have hb := C.2.1
  have hl : lv_has ls 5 [(0, .ref a), (1, .ref v), (2, .int (nI dep))] := hl
  have hfr : gh_fr f f (wM a dg) := gh_fr.rf
  have hMP := wM.P hPa hPd
  have ho := vo_o.mp hvo
  have hk6 := ho.1
  have hc16 := ho.2.2.2.2.2.2.1
  have hql := ho.2.2.2.2.1
  have hqk := ho.2.2.2.2.2.2.2.2.2.2.1
  have hsub := ho.2.2.2.2.2.2.2.2.2.2.2
  rcases (show vt_k X = 5 ∨ vt_k X = 6 by omega) with hk | hk
  · obtain ⟨la_1, ka_1, ia_1, gk_1, gi_1, K_1, B_1, hp_1, h0_1, h1_1, h2_1, h3_1, h4_1, h5_1⟩ := cv_o.mp hv
    refine lv_aload_n hx hb d_Wr_writeItems_0 rfl (lv_at hl 1 rfl) ?_
    refine gh_get C V h0_1 gc_Va gi_Va 0 (by decide) f_Wr_30 rfl rfl d_Wr_writeItems_1 ?_
    refine lv_bipush (v := 6) hx hb d_Wr_writeItems_4 (by decide) ?_
    refine lv_icmp_ne (tgt := 13) hx hb d_Wr_writeItems_6 (by decide) (fun c2 => ?_) (fun c2 => absurd c2 (by rw [hk]; decide))
    refine lv_iconst (v := 0) hx hb d_Wr_writeItems_13 (by decide) ?_
    refine lv_istore_n hx hb d_Wr_writeItems_14 rfl hl (by decide) rfl (fun ls hl => ?_)
    have hl : lv_has ls 5 [(3, .int 0), (0, .ref a), (1, .ref v), (2, .int (nI dep))] := hl
    refine lv_aload_n hx hb d_Wr_writeItems_15 rfl (lv_at hl 1 rfl) ?_
    refine lv_iload_n hx hb d_Wr_writeItems_16 rfl (lv_at hl 0 rfl) ?_
    refine lv_if_eq (tgt := 25) hx hb d_Wr_writeItems_17 (by decide) (fun c3 => ?_) (fun c3 => absurd (by decide) c3)
    refine lv_bipush (v := 91) hx hb d_Wr_writeItems_25 (by decide) ?_
    refine gh_callV C V hl.1 m_Wr_writeSign l_Wr_58 (c_Wr_writeSign l E _ _ a dg wt _ (91) ⟨91, by decide, rfl⟩ hw) rfl hw.1 gc_Wr ⟨by first | decide | omega | (dsimp only; omega), by first | decide | omega | (dsimp only; omega)⟩ ⟨by first | decide | omega | (dsimp only; omega), by first | decide | omega | (dsimp only; omega)⟩ (Nat.le_of_ble_eq_true rfl) rfl d_Wr_writeItems_27 (fun r fw1 H locs hp9 V1 => ?_)
    obtain ⟨rfl, hw2, hfr2⟩ := hp9
    have V := V1
    refine W.eq (g2 := F0 m 30 ls []) rfl ?_
    have hfr := wM.tr hfr (hfr2.wide (fun b hb => Or.inl hb))
    have hw : wS E fw1 a dg wt (wr_l wt st (([]) ++ [91])) := by rw [wr_l_snoc]; exact hw2
    refine lv_iconst (v := 0) hx hb d_Wr_writeItems_30 (by decide) ?_
    refine lv_istore hx hb d_Wr_writeItems_31 hl (by decide) rfl (fun ls hl => ?_)
    have hl : lv_has ls 5 [(4, .int 0), (3, .int 0), (0, .ref a), (1, .ref v), (2, .int (nI dep))] := hl
    have hl : lv_has ls 5 [(4, .int 0), (0, .ref a), (1, .ref v), (2, .int (nI dep)), (3, .int 0)] := lv_sub hl [0, 2, 3, 4, 1] rfl
    have hl : lv_has ls 5 [(4, .int (nI 0)), (0, .ref a), (1, .ref v), (2, .int (nI dep)), (3, .int 0)] := hl
    have hout : ([if vt_k X = 6 then 123 else 91] ++ wr_m (wr_v n) X (vt_c X) 0 ++ [if vt_k X = 6 then 125 else 93]) = ([91] ++ wr_m (wr_v n) X (vt_c X) 0 ++ [93]) := by simp only [hk]; rfl
    have loop : ∀ (n9 i9 : Nat) (T9 : List Int32) (f1 : gh_F) (H : Heap) (locs : List Loc) (ls : Array Slot), i9 + n9 = vt_c X → T9 ++ wr_m (wr_v n) X n9 i9 ++ [93] = ([91] ++ wr_m (wr_v n) X (vt_c X) 0 ++ [93]) → wS E f1 a dg wt (wr_l wt st T9) → gh_fr f f1 (wM a dg) → gh_V E A f1 s H locs → lv_has ls 5 [(4, .int (nI i9)), (0, .ref a), (1, .ref v), (2, .int (nI dep)), (3, .int 0)] → W p l e { frames := 15 + 2 * n, cells := 0, slots := 0, locals := 330 + 60 * n } s m args below meth c H locs 0 0 (MQ below (gh_Q E f (fun r g => r = none ∧ wS E g a dg wt (wr_l wt st ([if vt_k X = 6 then 123 else 91] ++ wr_m (wr_v n) X (vt_c X) 0 ++ [if vt_k X = 6 then 125 else 93])) ∧ gh_fr f g (wM a dg))) args s 0 0 A) (F0 m 33 ls []) := by
      intro n9
      induction n9 with
      | zero =>
        intro i9 T9 f1 H locs ls hi hT hw hfr V hl
        have hv1 := cv.keep hfr hMP hv
        obtain ⟨la_4, ka_4, ia_4, gk_4, gi_4, K_4, B_4, hp_4, h0_4, h1_4, h2_4, h3_4, h4_4, h5_4⟩ := cv_o.mp hv1
        refine lv_iload hx hb d_Wr_writeItems_33 (lv_at hl 0 rfl) ?_
        refine lv_aload_n hx hb d_Wr_writeItems_35 rfl (lv_at hl 2 rfl) ?_
        refine gh_get C V h0_4 gc_Va gi_Va 4 (by decide) f_Wr_62 rfl rfl d_Wr_writeItems_36 ?_
        refine gh_alen (t0 := 4) C V rfl h3_4 (v := nI (vt_c X)) rfl d_Wr_writeItems_39 ?_
        refine lv_icmp_ge (tgt := 95) hx hb d_Wr_writeItems_40 (by decide) (fun c5 => ?_) (fun c5 => absurd (nI_le (by omega) (by omega)) c5)
        refine lv_aload_n hx hb d_Wr_writeItems_95 rfl (lv_at hl 1 rfl) ?_
        refine lv_iload_n hx hb d_Wr_writeItems_96 rfl (lv_at hl 4 rfl) ?_
        refine lv_if_eq (tgt := 105) hx hb d_Wr_writeItems_97 (by decide) (fun c6 => ?_) (fun c6 => absurd (by decide) c6)
        refine lv_bipush (v := 93) hx hb d_Wr_writeItems_105 (by decide) ?_
        refine gh_callV C V hl.1 m_Wr_writeSign l_Wr_58 (c_Wr_writeSign l E _ _ a dg wt _ (93) ⟨93, by decide, rfl⟩ hw) rfl hw.1 gc_Wr ⟨by first | decide | omega | (dsimp only; omega), by first | decide | omega | (dsimp only; omega)⟩ ⟨by first | decide | omega | (dsimp only; omega), by first | decide | omega | (dsimp only; omega)⟩ (Nat.le_of_ble_eq_true rfl) rfl d_Wr_writeItems_107 (fun r fw2 H locs hp9 V1 => ?_)
        obtain ⟨rfl, hw2, hfr2⟩ := hp9
        have V := V1
        refine W.eq (g2 := F0 m 110 ls []) rfl ?_
        have hfr := wM.tr hfr (hfr2.wide (fun b hb => Or.inl hb))
        have hw : wS E fw2 a dg wt (wr_l wt st (T9 ++ [93])) := by rw [wr_l_snoc]; exact hw2
        have hT : T9 ++ [93] = ([91] ++ wr_m (wr_v n) X (vt_c X) 0 ++ [93]) := by rw [← hT]; show _ = T9 ++ [] ++ [93]; rw [List.append_nil]
        refine gh_retv hAe C V hr hlocks d_Wr_writeItems_110 (by first | decide | omega | (dsimp only; omega)) (by first | decide | omega | (dsimp only; omega)) ?_
        exact ⟨rfl, by rw [hout, ← hT]; exact hw, hfr⟩
      | succ n9 ih =>
        intro i9 T9 f1 H locs ls hi hT hw hfr V hl
        have hv1 := cv.keep hfr hMP hv
        obtain ⟨la_7, ka_7, ia_7, gk_7, gi_7, K_7, B_7, hp_7, h0_7, h1_7, h2_7, h3_7, h4_7, h5_7⟩ := cv_o.mp hv1
        rw [wr_m_o] at hT
        refine lv_iload hx hb d_Wr_writeItems_33 (lv_at hl 0 rfl) ?_
        refine lv_aload_n hx hb d_Wr_writeItems_35 rfl (lv_at hl 2 rfl) ?_
        refine gh_get C V h0_7 gc_Va gi_Va 4 (by decide) f_Wr_62 rfl rfl d_Wr_writeItems_36 ?_
        refine gh_alen (t0 := 4) C V rfl h3_7 (v := nI (vt_c X)) rfl d_Wr_writeItems_39 ?_
        refine lv_icmp_ge (tgt := 95) hx hb d_Wr_writeItems_40 (by decide) (fun c8 => absurd c8 (nI_ge (by omega) (by omega))) (fun c8 => ?_)
        by_cases hi9 : i9 = 0
        · have hi0 : (if i9 = 0 then ([] : List Int32) else [44]) = [] := if_pos hi9
          refine lv_iload hx hb d_Wr_writeItems_43 (lv_at hl 0 rfl) ?_
          refine lv_if_le (tgt := 54) hx hb d_Wr_writeItems_45 (by decide) (fun c9 => ?_) (fun c9 => absurd (by rw [hi9]; decide) c9)
          refine lv_iload_n hx hb d_Wr_writeItems_54 rfl (lv_at hl 4 rfl) ?_
          refine lv_if_eq (tgt := 75) hx hb d_Wr_writeItems_55 (by decide) (fun c10 => ?_) (fun c10 => absurd (by decide) c10)
          have hv2 := cv.keep hfr hMP hv
          obtain ⟨la_11, ka_11, ia_11, gk_11, gi_11, K_11, B_11, hp_11, h0_11, h1_11, h2_11, h3_11, h4_11, h5_11⟩ := cv_o.mp hv2
          refine lv_aload_n hx hb d_Wr_writeItems_75 rfl (lv_at hl 1 rfl) ?_
          refine lv_aload_n hx hb d_Wr_writeItems_76 rfl (lv_at hl 2 rfl) ?_
          refine gh_get C V h0_11 gc_Va gi_Va 4 (by decide) f_Wr_62 rfl rfl d_Wr_writeItems_77 ?_
          refine lv_iload hx hb d_Wr_writeItems_80 (lv_at hl 0 rfl) ?_
          refine gn_aald (t0 := 4) (i := i9) (v := (B_11 i9)) C V rfl h3_11 (by omega) (by omega) (h5_11 i9 (by omega)).1 d_Wr_writeItems_82 ?_
          refine lv_iload_n hx hb d_Wr_writeItems_83 rfl (lv_at hl 3 rfl) ?_
          refine lv_iconst (v := 1) hx hb d_Wr_writeItems_84 (by decide) ?_
          refine gn_iadd (a := dep) (b := 1) hx hb d_Wr_writeItems_85 ?_
          refine gh_callV C V hl.1 m_Wr_writeValue l_Wr_24 (ihn _ _ a dg wt _ ((B_11 i9)) (dep + 1) (vt_s X i9) (by omega) (h5_11 i9 (by omega)).2 (hsub i9 (by omega)).2 hPa hPd hw) rfl hw.1 gc_Wr ⟨by first | decide | omega | (dsimp only; omega), by first | decide | omega | (dsimp only; omega)⟩ ⟨by first | decide | omega | (dsimp only; omega), by first | decide | omega | (dsimp only; omega)⟩ (Nat.le_of_ble_eq_true rfl) rfl d_Wr_writeItems_86 (fun r fv3 H locs hp9 V1 => ?_)
          obtain ⟨rfl, hw2, hfr2⟩ := hp9
          have V := V1
          refine W.eq (g2 := F0 m 89 ls []) rfl ?_
          have hfr := wM.tr hfr hfr2
          have hw : wS E fv3 a dg wt (wr_l wt st (T9 ++ wr_v n (vt_s X i9))) := by rw [wr_l_app]; exact hw2
          refine lv_iinc (k := 0) (v := (nI i9) + 1) hx hb d_Wr_writeItems_89 hl rfl (by rfl) (by decide) rfl (fun ls hl => ?_)
          have hl : lv_has ls 5 [(4, .int (nI (i9 + 1))), (0, .ref a), (1, .ref v), (2, .int (nI dep)), (3, .int 0)] := by rw [nI_succ]; exact hl
          refine lv_goto (tgt := 33) hx hb d_Wr_writeItems_92 (by decide) ?_
          have hl : lv_has ls 5 [(4, .int (nI (i9 + 1))), (0, .ref a), (1, .ref v), (2, .int (nI dep)), (3, .int 0)] := lv_sub hl [0, 1, 2, 3, 4] rfl
          have hl : lv_has ls 5 [(4, .int (nI (i9 + 1))), (0, .ref a), (1, .ref v), (2, .int (nI dep)), (3, .int 0)] := hl
          exact ih (i9 + 1) (T9 ++ wr_v n (vt_s X i9)) _ _ _ ls (by omega) (by rw [← hT]; simp only [if_neg (show ¬ vt_k X = 6 by omega), hi0, List.append_assoc, List.cons_append, List.nil_append, List.append_nil]) hw hfr V hl
        · have hi0 : (if i9 = 0 then ([] : List Int32) else [44]) = [44] := if_neg hi9
          refine lv_iload hx hb d_Wr_writeItems_43 (lv_at hl 0 rfl) ?_
          refine lv_if_le (tgt := 54) hx hb d_Wr_writeItems_45 (by decide) (fun c12 => absurd c12 (nI_nle0 (by omega) (by omega))) (fun c12 => ?_)
          refine lv_aload_n hx hb d_Wr_writeItems_48 rfl (lv_at hl 1 rfl) ?_
          refine lv_bipush (v := 44) hx hb d_Wr_writeItems_49 (by decide) ?_
          refine gh_callV C V hl.1 m_Wr_writeSign l_Wr_58 (c_Wr_writeSign l E _ _ a dg wt _ (44) ⟨44, by decide, rfl⟩ hw) rfl hw.1 gc_Wr ⟨by first | decide | omega | (dsimp only; omega), by first | decide | omega | (dsimp only; omega)⟩ ⟨by first | decide | omega | (dsimp only; omega), by first | decide | omega | (dsimp only; omega)⟩ (Nat.le_of_ble_eq_true rfl) rfl d_Wr_writeItems_51 (fun r fw4 H locs hp9 V1 => ?_)
          obtain ⟨rfl, hw2, hfr2⟩ := hp9
          have V := V1
          refine W.eq (g2 := F0 m 54 ls []) rfl ?_
          have hfr := wM.tr hfr (hfr2.wide (fun b hb => Or.inl hb))
          have hw : wS E fw4 a dg wt (wr_l wt st (T9 ++ [44])) := by rw [wr_l_snoc]; exact hw2
          refine lv_iload_n hx hb d_Wr_writeItems_54 rfl (lv_at hl 4 rfl) ?_
          refine lv_if_eq (tgt := 75) hx hb d_Wr_writeItems_55 (by decide) (fun c13 => ?_) (fun c13 => absurd (by decide) c13)
          have hv2 := cv.keep hfr hMP hv
          obtain ⟨la_14, ka_14, ia_14, gk_14, gi_14, K_14, B_14, hp_14, h0_14, h1_14, h2_14, h3_14, h4_14, h5_14⟩ := cv_o.mp hv2
          refine lv_aload_n hx hb d_Wr_writeItems_75 rfl (lv_at hl 1 rfl) ?_
          refine lv_aload_n hx hb d_Wr_writeItems_76 rfl (lv_at hl 2 rfl) ?_
          refine gh_get C V h0_14 gc_Va gi_Va 4 (by decide) f_Wr_62 rfl rfl d_Wr_writeItems_77 ?_
          refine lv_iload hx hb d_Wr_writeItems_80 (lv_at hl 0 rfl) ?_
          refine gn_aald (t0 := 4) (i := i9) (v := (B_14 i9)) C V rfl h3_14 (by omega) (by omega) (h5_14 i9 (by omega)).1 d_Wr_writeItems_82 ?_
          refine lv_iload_n hx hb d_Wr_writeItems_83 rfl (lv_at hl 3 rfl) ?_
          refine lv_iconst (v := 1) hx hb d_Wr_writeItems_84 (by decide) ?_
          refine gn_iadd (a := dep) (b := 1) hx hb d_Wr_writeItems_85 ?_
          refine gh_callV C V hl.1 m_Wr_writeValue l_Wr_24 (ihn _ _ a dg wt _ ((B_14 i9)) (dep + 1) (vt_s X i9) (by omega) (h5_14 i9 (by omega)).2 (hsub i9 (by omega)).2 hPa hPd hw) rfl hw.1 gc_Wr ⟨by first | decide | omega | (dsimp only; omega), by first | decide | omega | (dsimp only; omega)⟩ ⟨by first | decide | omega | (dsimp only; omega), by first | decide | omega | (dsimp only; omega)⟩ (Nat.le_of_ble_eq_true rfl) rfl d_Wr_writeItems_86 (fun r fv5 H locs hp9 V1 => ?_)
          obtain ⟨rfl, hw2, hfr2⟩ := hp9
          have V := V1
          refine W.eq (g2 := F0 m 89 ls []) rfl ?_
          have hfr := wM.tr hfr hfr2
          have hw : wS E fv5 a dg wt (wr_l wt st ((T9 ++ [44]) ++ wr_v n (vt_s X i9))) := by rw [wr_l_app]; exact hw2
          refine lv_iinc (k := 0) (v := (nI i9) + 1) hx hb d_Wr_writeItems_89 hl rfl (by rfl) (by decide) rfl (fun ls hl => ?_)
          have hl : lv_has ls 5 [(4, .int (nI (i9 + 1))), (0, .ref a), (1, .ref v), (2, .int (nI dep)), (3, .int 0)] := by rw [nI_succ]; exact hl
          refine lv_goto (tgt := 33) hx hb d_Wr_writeItems_92 (by decide) ?_
          have hl : lv_has ls 5 [(4, .int (nI (i9 + 1))), (0, .ref a), (1, .ref v), (2, .int (nI dep)), (3, .int 0)] := lv_sub hl [0, 1, 2, 3, 4] rfl
          have hl : lv_has ls 5 [(4, .int (nI (i9 + 1))), (0, .ref a), (1, .ref v), (2, .int (nI dep)), (3, .int 0)] := hl
          exact ih (i9 + 1) ((T9 ++ [44]) ++ wr_v n (vt_s X i9)) _ _ _ ls (by omega) (by rw [← hT]; simp only [if_neg (show ¬ vt_k X = 6 by omega), hi0, List.append_assoc, List.cons_append, List.nil_append, List.append_nil]) hw hfr V hl
    exact loop (vt_c X) 0 [91] _ _ _ ls (by omega) rfl hw hfr V hl
  · obtain ⟨la_15, ka_15, ia_15, gk_15, gi_15, K_15, B_15, hp_15, h0_15, h1_15, h2_15, h3_15, h4_15, h5_15⟩ := cv_o.mp hv
    refine lv_aload_n hx hb d_Wr_writeItems_0 rfl (lv_at hl 1 rfl) ?_
    refine gh_get C V h0_15 gc_Va gi_Va 0 (by decide) f_Wr_30 rfl rfl d_Wr_writeItems_1 ?_
    refine lv_bipush (v := 6) hx hb d_Wr_writeItems_4 (by decide) ?_
    refine lv_icmp_ne (tgt := 13) hx hb d_Wr_writeItems_6 (by decide) (fun c16 => absurd (by rw [hk]; rfl) c16) (fun c16 => ?_)
    refine lv_iconst (v := 1) hx hb d_Wr_writeItems_9 (by decide) ?_
    refine lv_goto (tgt := 14) hx hb d_Wr_writeItems_10 (by decide) ?_
    refine lv_istore_n hx hb d_Wr_writeItems_14 rfl hl (by decide) rfl (fun ls hl => ?_)
    have hl : lv_has ls 5 [(3, .int 1), (0, .ref a), (1, .ref v), (2, .int (nI dep))] := hl
    refine lv_aload_n hx hb d_Wr_writeItems_15 rfl (lv_at hl 1 rfl) ?_
    refine lv_iload_n hx hb d_Wr_writeItems_16 rfl (lv_at hl 0 rfl) ?_
    refine lv_if_eq (tgt := 25) hx hb d_Wr_writeItems_17 (by decide) (fun c17 => absurd c17 (by decide)) (fun c17 => ?_)
    refine lv_bipush (v := 123) hx hb d_Wr_writeItems_20 (by decide) ?_
    refine lv_goto (tgt := 27) hx hb d_Wr_writeItems_22 (by decide) ?_
    refine gh_callV C V hl.1 m_Wr_writeSign l_Wr_58 (c_Wr_writeSign l E _ _ a dg wt _ (123) ⟨123, by decide, rfl⟩ hw) rfl hw.1 gc_Wr ⟨by first | decide | omega | (dsimp only; omega), by first | decide | omega | (dsimp only; omega)⟩ ⟨by first | decide | omega | (dsimp only; omega), by first | decide | omega | (dsimp only; omega)⟩ (Nat.le_of_ble_eq_true rfl) rfl d_Wr_writeItems_27 (fun r fw6 H locs hp9 V1 => ?_)
    obtain ⟨rfl, hw2, hfr2⟩ := hp9
    have V := V1
    refine W.eq (g2 := F0 m 30 ls []) rfl ?_
    have hfr := wM.tr hfr (hfr2.wide (fun b hb => Or.inl hb))
    have hw : wS E fw6 a dg wt (wr_l wt st (([]) ++ [123])) := by rw [wr_l_snoc]; exact hw2
    refine lv_iconst (v := 0) hx hb d_Wr_writeItems_30 (by decide) ?_
    refine lv_istore hx hb d_Wr_writeItems_31 hl (by decide) rfl (fun ls hl => ?_)
    have hl : lv_has ls 5 [(4, .int 0), (3, .int 1), (0, .ref a), (1, .ref v), (2, .int (nI dep))] := hl
    have hl : lv_has ls 5 [(4, .int 0), (0, .ref a), (1, .ref v), (2, .int (nI dep)), (3, .int 1)] := lv_sub hl [0, 2, 3, 4, 1] rfl
    have hl : lv_has ls 5 [(4, .int (nI 0)), (0, .ref a), (1, .ref v), (2, .int (nI dep)), (3, .int 1)] := hl
    have hout : ([if vt_k X = 6 then 123 else 91] ++ wr_m (wr_v n) X (vt_c X) 0 ++ [if vt_k X = 6 then 125 else 93]) = ([123] ++ wr_m (wr_v n) X (vt_c X) 0 ++ [125]) := by simp only [hk]; rfl
    have hq6 : (vt_q X).length = vt_c X := by rw [hql, if_pos hk]
    have loop : ∀ (n9 i9 : Nat) (T9 : List Int32) (f1 : gh_F) (H : Heap) (locs : List Loc) (ls : Array Slot), i9 + n9 = vt_c X → T9 ++ wr_m (wr_v n) X n9 i9 ++ [125] = ([123] ++ wr_m (wr_v n) X (vt_c X) 0 ++ [125]) → wS E f1 a dg wt (wr_l wt st T9) → gh_fr f f1 (wM a dg) → gh_V E A f1 s H locs → lv_has ls 5 [(4, .int (nI i9)), (0, .ref a), (1, .ref v), (2, .int (nI dep)), (3, .int 1)] → W p l e { frames := 15 + 2 * n, cells := 0, slots := 0, locals := 330 + 60 * n } s m args below meth c H locs 0 0 (MQ below (gh_Q E f (fun r g => r = none ∧ wS E g a dg wt (wr_l wt st ([if vt_k X = 6 then 123 else 91] ++ wr_m (wr_v n) X (vt_c X) 0 ++ [if vt_k X = 6 then 125 else 93])) ∧ gh_fr f g (wM a dg))) args s 0 0 A) (F0 m 33 ls []) := by
      intro n9
      induction n9 with
      | zero =>
        intro i9 T9 f1 H locs ls hi hT hw hfr V hl
        have hv1 := cv.keep hfr hMP hv
        obtain ⟨la_18, ka_18, ia_18, gk_18, gi_18, K_18, B_18, hp_18, h0_18, h1_18, h2_18, h3_18, h4_18, h5_18⟩ := cv_o.mp hv1
        refine lv_iload hx hb d_Wr_writeItems_33 (lv_at hl 0 rfl) ?_
        refine lv_aload_n hx hb d_Wr_writeItems_35 rfl (lv_at hl 2 rfl) ?_
        refine gh_get C V h0_18 gc_Va gi_Va 4 (by decide) f_Wr_62 rfl rfl d_Wr_writeItems_36 ?_
        refine gh_alen (t0 := 4) C V rfl h3_18 (v := nI (vt_c X)) rfl d_Wr_writeItems_39 ?_
        refine lv_icmp_ge (tgt := 95) hx hb d_Wr_writeItems_40 (by decide) (fun c19 => ?_) (fun c19 => absurd (nI_le (by omega) (by omega)) c19)
        refine lv_aload_n hx hb d_Wr_writeItems_95 rfl (lv_at hl 1 rfl) ?_
        refine lv_iload_n hx hb d_Wr_writeItems_96 rfl (lv_at hl 4 rfl) ?_
        refine lv_if_eq (tgt := 105) hx hb d_Wr_writeItems_97 (by decide) (fun c20 => absurd c20 (by decide)) (fun c20 => ?_)
        refine lv_bipush (v := 125) hx hb d_Wr_writeItems_100 (by decide) ?_
        refine lv_goto (tgt := 107) hx hb d_Wr_writeItems_102 (by decide) ?_
        refine gh_callV C V hl.1 m_Wr_writeSign l_Wr_58 (c_Wr_writeSign l E _ _ a dg wt _ (125) ⟨125, by decide, rfl⟩ hw) rfl hw.1 gc_Wr ⟨by first | decide | omega | (dsimp only; omega), by first | decide | omega | (dsimp only; omega)⟩ ⟨by first | decide | omega | (dsimp only; omega), by first | decide | omega | (dsimp only; omega)⟩ (Nat.le_of_ble_eq_true rfl) rfl d_Wr_writeItems_107 (fun r fw7 H locs hp9 V1 => ?_)
        obtain ⟨rfl, hw2, hfr2⟩ := hp9
        have V := V1
        refine W.eq (g2 := F0 m 110 ls []) rfl ?_
        have hfr := wM.tr hfr (hfr2.wide (fun b hb => Or.inl hb))
        have hw : wS E fw7 a dg wt (wr_l wt st (T9 ++ [125])) := by rw [wr_l_snoc]; exact hw2
        have hT : T9 ++ [125] = ([123] ++ wr_m (wr_v n) X (vt_c X) 0 ++ [125]) := by rw [← hT]; show _ = T9 ++ [] ++ [125]; rw [List.append_nil]
        refine gh_retv hAe C V hr hlocks d_Wr_writeItems_110 (by first | decide | omega | (dsimp only; omega)) (by first | decide | omega | (dsimp only; omega)) ?_
        exact ⟨rfl, by rw [hout, ← hT]; exact hw, hfr⟩
      | succ n9 ih =>
        intro i9 T9 f1 H locs ls hi hT hw hfr V hl
        have hv1 := cv.keep hfr hMP hv
        obtain ⟨la_21, ka_21, ia_21, gk_21, gi_21, K_21, B_21, hp_21, h0_21, h1_21, h2_21, h3_21, h4_21, h5_21⟩ := cv_o.mp hv1
        rw [wr_m_o] at hT
        refine lv_iload hx hb d_Wr_writeItems_33 (lv_at hl 0 rfl) ?_
        refine lv_aload_n hx hb d_Wr_writeItems_35 rfl (lv_at hl 2 rfl) ?_
        refine gh_get C V h0_21 gc_Va gi_Va 4 (by decide) f_Wr_62 rfl rfl d_Wr_writeItems_36 ?_
        refine gh_alen (t0 := 4) C V rfl h3_21 (v := nI (vt_c X)) rfl d_Wr_writeItems_39 ?_
        refine lv_icmp_ge (tgt := 95) hx hb d_Wr_writeItems_40 (by decide) (fun c22 => absurd c22 (nI_ge (by omega) (by omega))) (fun c22 => ?_)
        by_cases hi9 : i9 = 0
        · have hi0 : (if i9 = 0 then ([] : List Int32) else [44]) = [] := if_pos hi9
          refine lv_iload hx hb d_Wr_writeItems_43 (lv_at hl 0 rfl) ?_
          refine lv_if_le (tgt := 54) hx hb d_Wr_writeItems_45 (by decide) (fun c23 => ?_) (fun c23 => absurd (by rw [hi9]; decide) c23)
          have hv3 := cv.keep hfr hMP hv
          obtain ⟨la_24, ka_24, ia_24, gk_24, gi_24, K_24, B_24, hp_24, h0_24, h1_24, h2_24, h3_24, h4_24, h5_24⟩ := cv_o.mp hv3
          refine lv_iload_n hx hb d_Wr_writeItems_54 rfl (lv_at hl 4 rfl) ?_
          refine lv_if_eq (tgt := 75) hx hb d_Wr_writeItems_55 (by decide) (fun c25 => absurd c25 (by decide)) (fun c25 => ?_)
          refine lv_aload_n hx hb d_Wr_writeItems_58 rfl (lv_at hl 1 rfl) ?_
          refine lv_aload_n hx hb d_Wr_writeItems_59 rfl (lv_at hl 2 rfl) ?_
          refine gh_get C V h0_24 gc_Va gi_Va 3 (by decide) f_Wr_66 rfl rfl d_Wr_writeItems_60 ?_
          refine lv_iload hx hb d_Wr_writeItems_63 (lv_at hl 0 rfl) ?_
          refine gn_aald (t0 := 4) (i := i9) (v := (K_24 i9)) C V rfl h2_24 (by omega) (by omega) (h4_24 i9 (by omega)).1 d_Wr_writeItems_65 ?_
          obtain ⟨la_26, ka_26, ia_26, gk_26, gi_26, hp_26, h0_26, h1_26, h2_26, h3_26⟩ := (h4_24 i9 (by omega)).2
          refine gh_callV C V hl.1 m_Wr_writeString l_Wr_51 (c_Wr_writeString l E _ _ a dg wt _ P ((K_24 i9)) la_26 ((vt_q X).getD i9 []) _ _ _ _ _ _ hPa hPd h0_26 hp_26.1 h1_26.A (hqk i9 (by omega)) hw) rfl hw.1 gc_Wr ⟨by first | decide | omega | (dsimp only; omega), by first | decide | omega | (dsimp only; omega)⟩ ⟨by first | decide | omega | (dsimp only; omega), by first | decide | omega | (dsimp only; omega)⟩ (Nat.le_of_ble_eq_true rfl) rfl d_Wr_writeItems_66 (fun r fk8 H locs hp9 V1 => ?_)
          obtain ⟨rfl, hw2, hfr2⟩ := hp9
          have V := V1
          refine W.eq (g2 := F0 m 69 ls []) rfl ?_
          have hfr := wM.tr hfr hfr2
          have hw : wS E fk8 a dg wt (wr_l wt st (T9 ++ wr_t ((vt_q X).getD i9 []))) := by rw [wr_l_app]; exact hw2
          refine lv_aload_n hx hb d_Wr_writeItems_69 rfl (lv_at hl 1 rfl) ?_
          refine lv_bipush (v := 58) hx hb d_Wr_writeItems_70 (by decide) ?_
          refine gh_callV C V hl.1 m_Wr_writeSign l_Wr_58 (c_Wr_writeSign l E _ _ a dg wt _ (58) ⟨58, by decide, rfl⟩ hw) rfl hw.1 gc_Wr ⟨by first | decide | omega | (dsimp only; omega), by first | decide | omega | (dsimp only; omega)⟩ ⟨by first | decide | omega | (dsimp only; omega), by first | decide | omega | (dsimp only; omega)⟩ (Nat.le_of_ble_eq_true rfl) rfl d_Wr_writeItems_72 (fun r fw9 H locs hp9 V1 => ?_)
          obtain ⟨rfl, hw2, hfr2⟩ := hp9
          have V := V1
          refine W.eq (g2 := F0 m 75 ls []) rfl ?_
          have hfr := wM.tr hfr (hfr2.wide (fun b hb => Or.inl hb))
          have hw : wS E fw9 a dg wt (wr_l wt st ((T9 ++ wr_t ((vt_q X).getD i9 [])) ++ [58])) := by rw [wr_l_snoc]; exact hw2
          have hv2 := cv.keep hfr hMP hv
          obtain ⟨la_27, ka_27, ia_27, gk_27, gi_27, K_27, B_27, hp_27, h0_27, h1_27, h2_27, h3_27, h4_27, h5_27⟩ := cv_o.mp hv2
          refine lv_aload_n hx hb d_Wr_writeItems_75 rfl (lv_at hl 1 rfl) ?_
          refine lv_aload_n hx hb d_Wr_writeItems_76 rfl (lv_at hl 2 rfl) ?_
          refine gh_get C V h0_27 gc_Va gi_Va 4 (by decide) f_Wr_62 rfl rfl d_Wr_writeItems_77 ?_
          refine lv_iload hx hb d_Wr_writeItems_80 (lv_at hl 0 rfl) ?_
          refine gn_aald (t0 := 4) (i := i9) (v := (B_27 i9)) C V rfl h3_27 (by omega) (by omega) (h5_27 i9 (by omega)).1 d_Wr_writeItems_82 ?_
          refine lv_iload_n hx hb d_Wr_writeItems_83 rfl (lv_at hl 3 rfl) ?_
          refine lv_iconst (v := 1) hx hb d_Wr_writeItems_84 (by decide) ?_
          refine gn_iadd (a := dep) (b := 1) hx hb d_Wr_writeItems_85 ?_
          refine gh_callV C V hl.1 m_Wr_writeValue l_Wr_24 (ihn _ _ a dg wt _ ((B_27 i9)) (dep + 1) (vt_s X i9) (by omega) (h5_27 i9 (by omega)).2 (hsub i9 (by omega)).2 hPa hPd hw) rfl hw.1 gc_Wr ⟨by first | decide | omega | (dsimp only; omega), by first | decide | omega | (dsimp only; omega)⟩ ⟨by first | decide | omega | (dsimp only; omega), by first | decide | omega | (dsimp only; omega)⟩ (Nat.le_of_ble_eq_true rfl) rfl d_Wr_writeItems_86 (fun r fv10 H locs hp9 V1 => ?_)
          obtain ⟨rfl, hw2, hfr2⟩ := hp9
          have V := V1
          refine W.eq (g2 := F0 m 89 ls []) rfl ?_
          have hfr := wM.tr hfr hfr2
          have hw : wS E fv10 a dg wt (wr_l wt st ((T9 ++ wr_t ((vt_q X).getD i9 []) ++ [58]) ++ wr_v n (vt_s X i9))) := by rw [wr_l_app]; exact hw2
          refine lv_iinc (k := 0) (v := (nI i9) + 1) hx hb d_Wr_writeItems_89 hl rfl (by rfl) (by decide) rfl (fun ls hl => ?_)
          have hl : lv_has ls 5 [(4, .int (nI (i9 + 1))), (0, .ref a), (1, .ref v), (2, .int (nI dep)), (3, .int 1)] := by rw [nI_succ]; exact hl
          refine lv_goto (tgt := 33) hx hb d_Wr_writeItems_92 (by decide) ?_
          have hl : lv_has ls 5 [(4, .int (nI (i9 + 1))), (0, .ref a), (1, .ref v), (2, .int (nI dep)), (3, .int 1)] := lv_sub hl [0, 1, 2, 3, 4] rfl
          have hl : lv_has ls 5 [(4, .int (nI (i9 + 1))), (0, .ref a), (1, .ref v), (2, .int (nI dep)), (3, .int 1)] := hl
          exact ih (i9 + 1) ((T9 ++ wr_t ((vt_q X).getD i9 []) ++ [58]) ++ wr_v n (vt_s X i9)) _ _ _ ls (by omega) (by rw [← hT]; simp only [if_pos hk, hi0, List.append_assoc, List.cons_append, List.nil_append, List.append_nil]) hw hfr V hl
        · have hi0 : (if i9 = 0 then ([] : List Int32) else [44]) = [44] := if_neg hi9
          refine lv_iload hx hb d_Wr_writeItems_43 (lv_at hl 0 rfl) ?_
          refine lv_if_le (tgt := 54) hx hb d_Wr_writeItems_45 (by decide) (fun c28 => absurd c28 (nI_nle0 (by omega) (by omega))) (fun c28 => ?_)
          refine lv_aload_n hx hb d_Wr_writeItems_48 rfl (lv_at hl 1 rfl) ?_
          refine lv_bipush (v := 44) hx hb d_Wr_writeItems_49 (by decide) ?_
          refine gh_callV C V hl.1 m_Wr_writeSign l_Wr_58 (c_Wr_writeSign l E _ _ a dg wt _ (44) ⟨44, by decide, rfl⟩ hw) rfl hw.1 gc_Wr ⟨by first | decide | omega | (dsimp only; omega), by first | decide | omega | (dsimp only; omega)⟩ ⟨by first | decide | omega | (dsimp only; omega), by first | decide | omega | (dsimp only; omega)⟩ (Nat.le_of_ble_eq_true rfl) rfl d_Wr_writeItems_51 (fun r fw11 H locs hp9 V1 => ?_)
          obtain ⟨rfl, hw2, hfr2⟩ := hp9
          have V := V1
          refine W.eq (g2 := F0 m 54 ls []) rfl ?_
          have hfr := wM.tr hfr (hfr2.wide (fun b hb => Or.inl hb))
          have hw : wS E fw11 a dg wt (wr_l wt st (T9 ++ [44])) := by rw [wr_l_snoc]; exact hw2
          have hv3 := cv.keep hfr hMP hv
          obtain ⟨la_29, ka_29, ia_29, gk_29, gi_29, K_29, B_29, hp_29, h0_29, h1_29, h2_29, h3_29, h4_29, h5_29⟩ := cv_o.mp hv3
          refine lv_iload_n hx hb d_Wr_writeItems_54 rfl (lv_at hl 4 rfl) ?_
          refine lv_if_eq (tgt := 75) hx hb d_Wr_writeItems_55 (by decide) (fun c30 => absurd c30 (by decide)) (fun c30 => ?_)
          refine lv_aload_n hx hb d_Wr_writeItems_58 rfl (lv_at hl 1 rfl) ?_
          refine lv_aload_n hx hb d_Wr_writeItems_59 rfl (lv_at hl 2 rfl) ?_
          refine gh_get C V h0_29 gc_Va gi_Va 3 (by decide) f_Wr_66 rfl rfl d_Wr_writeItems_60 ?_
          refine lv_iload hx hb d_Wr_writeItems_63 (lv_at hl 0 rfl) ?_
          refine gn_aald (t0 := 4) (i := i9) (v := (K_29 i9)) C V rfl h2_29 (by omega) (by omega) (h4_29 i9 (by omega)).1 d_Wr_writeItems_65 ?_
          obtain ⟨la_31, ka_31, ia_31, gk_31, gi_31, hp_31, h0_31, h1_31, h2_31, h3_31⟩ := (h4_29 i9 (by omega)).2
          refine gh_callV C V hl.1 m_Wr_writeString l_Wr_51 (c_Wr_writeString l E _ _ a dg wt _ P ((K_29 i9)) la_31 ((vt_q X).getD i9 []) _ _ _ _ _ _ hPa hPd h0_31 hp_31.1 h1_31.A (hqk i9 (by omega)) hw) rfl hw.1 gc_Wr ⟨by first | decide | omega | (dsimp only; omega), by first | decide | omega | (dsimp only; omega)⟩ ⟨by first | decide | omega | (dsimp only; omega), by first | decide | omega | (dsimp only; omega)⟩ (Nat.le_of_ble_eq_true rfl) rfl d_Wr_writeItems_66 (fun r fk12 H locs hp9 V1 => ?_)
          obtain ⟨rfl, hw2, hfr2⟩ := hp9
          have V := V1
          refine W.eq (g2 := F0 m 69 ls []) rfl ?_
          have hfr := wM.tr hfr hfr2
          have hw : wS E fk12 a dg wt (wr_l wt st ((T9 ++ [44]) ++ wr_t ((vt_q X).getD i9 []))) := by rw [wr_l_app]; exact hw2
          refine lv_aload_n hx hb d_Wr_writeItems_69 rfl (lv_at hl 1 rfl) ?_
          refine lv_bipush (v := 58) hx hb d_Wr_writeItems_70 (by decide) ?_
          refine gh_callV C V hl.1 m_Wr_writeSign l_Wr_58 (c_Wr_writeSign l E _ _ a dg wt _ (58) ⟨58, by decide, rfl⟩ hw) rfl hw.1 gc_Wr ⟨by first | decide | omega | (dsimp only; omega), by first | decide | omega | (dsimp only; omega)⟩ ⟨by first | decide | omega | (dsimp only; omega), by first | decide | omega | (dsimp only; omega)⟩ (Nat.le_of_ble_eq_true rfl) rfl d_Wr_writeItems_72 (fun r fw13 H locs hp9 V1 => ?_)
          obtain ⟨rfl, hw2, hfr2⟩ := hp9
          have V := V1
          refine W.eq (g2 := F0 m 75 ls []) rfl ?_
          have hfr := wM.tr hfr (hfr2.wide (fun b hb => Or.inl hb))
          have hw : wS E fw13 a dg wt (wr_l wt st ((T9 ++ [44] ++ wr_t ((vt_q X).getD i9 [])) ++ [58])) := by rw [wr_l_snoc]; exact hw2
          have hv2 := cv.keep hfr hMP hv
          obtain ⟨la_32, ka_32, ia_32, gk_32, gi_32, K_32, B_32, hp_32, h0_32, h1_32, h2_32, h3_32, h4_32, h5_32⟩ := cv_o.mp hv2
          refine lv_aload_n hx hb d_Wr_writeItems_75 rfl (lv_at hl 1 rfl) ?_
          refine lv_aload_n hx hb d_Wr_writeItems_76 rfl (lv_at hl 2 rfl) ?_
          refine gh_get C V h0_32 gc_Va gi_Va 4 (by decide) f_Wr_62 rfl rfl d_Wr_writeItems_77 ?_
          refine lv_iload hx hb d_Wr_writeItems_80 (lv_at hl 0 rfl) ?_
          refine gn_aald (t0 := 4) (i := i9) (v := (B_32 i9)) C V rfl h3_32 (by omega) (by omega) (h5_32 i9 (by omega)).1 d_Wr_writeItems_82 ?_
          refine lv_iload_n hx hb d_Wr_writeItems_83 rfl (lv_at hl 3 rfl) ?_
          refine lv_iconst (v := 1) hx hb d_Wr_writeItems_84 (by decide) ?_
          refine gn_iadd (a := dep) (b := 1) hx hb d_Wr_writeItems_85 ?_
          refine gh_callV C V hl.1 m_Wr_writeValue l_Wr_24 (ihn _ _ a dg wt _ ((B_32 i9)) (dep + 1) (vt_s X i9) (by omega) (h5_32 i9 (by omega)).2 (hsub i9 (by omega)).2 hPa hPd hw) rfl hw.1 gc_Wr ⟨by first | decide | omega | (dsimp only; omega), by first | decide | omega | (dsimp only; omega)⟩ ⟨by first | decide | omega | (dsimp only; omega), by first | decide | omega | (dsimp only; omega)⟩ (Nat.le_of_ble_eq_true rfl) rfl d_Wr_writeItems_86 (fun r fv14 H locs hp9 V1 => ?_)
          obtain ⟨rfl, hw2, hfr2⟩ := hp9
          have V := V1
          refine W.eq (g2 := F0 m 89 ls []) rfl ?_
          have hfr := wM.tr hfr hfr2
          have hw : wS E fv14 a dg wt (wr_l wt st ((T9 ++ [44] ++ wr_t ((vt_q X).getD i9 []) ++ [58]) ++ wr_v n (vt_s X i9))) := by rw [wr_l_app]; exact hw2
          refine lv_iinc (k := 0) (v := (nI i9) + 1) hx hb d_Wr_writeItems_89 hl rfl (by rfl) (by decide) rfl (fun ls hl => ?_)
          have hl : lv_has ls 5 [(4, .int (nI (i9 + 1))), (0, .ref a), (1, .ref v), (2, .int (nI dep)), (3, .int 1)] := by rw [nI_succ]; exact hl
          refine lv_goto (tgt := 33) hx hb d_Wr_writeItems_92 (by decide) ?_
          have hl : lv_has ls 5 [(4, .int (nI (i9 + 1))), (0, .ref a), (1, .ref v), (2, .int (nI dep)), (3, .int 1)] := lv_sub hl [0, 1, 2, 3, 4] rfl
          have hl : lv_has ls 5 [(4, .int (nI (i9 + 1))), (0, .ref a), (1, .ref v), (2, .int (nI dep)), (3, .int 1)] := hl
          exact ih (i9 + 1) ((T9 ++ [44] ++ wr_t ((vt_q X).getD i9 []) ++ [58]) ++ wr_v n (vt_s X i9)) _ _ _ ls (by omega) (by rw [← hT]; simp only [if_pos hk, hi0, List.append_assoc, List.cons_append, List.nil_append, List.append_nil]) hw hfr V hl
    exact loop (vt_c X) 0 [123] _ _ _ ls (by omega) rfl hw hfr V hl
theorem d_Wr_writeValue_0 : decode b_Wr_writeValue 0 = .ok (.iload_n 2, 1) := by decide +kernel
theorem d_Wr_writeValue_1 : decode b_Wr_writeValue 1 = .ok (.bipush 7, 2) := by decide +kernel
theorem d_Wr_writeValue_3 : decode b_Wr_writeValue 3 = .ok (.if_icmp .le 4, 3) := by decide +kernel
theorem d_Wr_writeValue_6 : decode b_Wr_writeValue 6 = .ok (.return_, 1) := by decide +kernel
theorem d_Wr_writeValue_7 : decode b_Wr_writeValue 7 = .ok (.aload_n 1, 1) := by decide +kernel
theorem d_Wr_writeValue_8 : decode b_Wr_writeValue 8 = .ok (.getfield 30, 3) := by decide +kernel
theorem d_Wr_writeValue_11 : decode b_Wr_writeValue 11 = .ok (.tableswitch 79 0 4 #[33, 42, 51, 60, 71], 33) := by decide +kernel
theorem d_Wr_writeValue_44 : decode b_Wr_writeValue 44 = .ok (.aload_n 0, 1) := by decide +kernel
theorem d_Wr_writeValue_45 : decode b_Wr_writeValue 45 = .ok (.ldc 33, 2) := by decide +kernel
theorem d_Wr_writeValue_47 : decode b_Wr_writeValue 47 = .ok (.invokevirtual 35, 3) := by decide +kernel
theorem d_Wr_writeValue_50 : decode b_Wr_writeValue 50 = .ok (.goto 46, 3) := by decide +kernel
theorem d_Wr_writeValue_53 : decode b_Wr_writeValue 53 = .ok (.aload_n 0, 1) := by decide +kernel
theorem d_Wr_writeValue_54 : decode b_Wr_writeValue 54 = .ok (.ldc 39, 2) := by decide +kernel
theorem d_Wr_writeValue_56 : decode b_Wr_writeValue 56 = .ok (.invokevirtual 35, 3) := by decide +kernel
theorem d_Wr_writeValue_59 : decode b_Wr_writeValue 59 = .ok (.goto 37, 3) := by decide +kernel
theorem d_Wr_writeValue_62 : decode b_Wr_writeValue 62 = .ok (.aload_n 0, 1) := by decide +kernel
theorem d_Wr_writeValue_63 : decode b_Wr_writeValue 63 = .ok (.ldc 41, 2) := by decide +kernel
theorem d_Wr_writeValue_65 : decode b_Wr_writeValue 65 = .ok (.invokevirtual 35, 3) := by decide +kernel
theorem d_Wr_writeValue_68 : decode b_Wr_writeValue 68 = .ok (.goto 28, 3) := by decide +kernel
theorem d_Wr_writeValue_71 : decode b_Wr_writeValue 71 = .ok (.aload_n 0, 1) := by decide +kernel
theorem d_Wr_writeValue_72 : decode b_Wr_writeValue 72 = .ok (.aload_n 1, 1) := by decide +kernel
theorem d_Wr_writeValue_73 : decode b_Wr_writeValue 73 = .ok (.getfield 43, 3) := by decide +kernel
theorem d_Wr_writeValue_76 : decode b_Wr_writeValue 76 = .ok (.invokevirtual 47, 3) := by decide +kernel
theorem d_Wr_writeValue_79 : decode b_Wr_writeValue 79 = .ok (.goto 17, 3) := by decide +kernel
theorem d_Wr_writeValue_82 : decode b_Wr_writeValue 82 = .ok (.aload_n 0, 1) := by decide +kernel
theorem d_Wr_writeValue_83 : decode b_Wr_writeValue 83 = .ok (.aload_n 1, 1) := by decide +kernel
theorem d_Wr_writeValue_84 : decode b_Wr_writeValue 84 = .ok (.invokevirtual 51, 3) := by decide +kernel
theorem d_Wr_writeValue_87 : decode b_Wr_writeValue 87 = .ok (.goto 9, 3) := by decide +kernel
theorem d_Wr_writeValue_90 : decode b_Wr_writeValue 90 = .ok (.aload_n 0, 1) := by decide +kernel
theorem d_Wr_writeValue_91 : decode b_Wr_writeValue 91 = .ok (.aload_n 1, 1) := by decide +kernel
theorem d_Wr_writeValue_92 : decode b_Wr_writeValue 92 = .ok (.iload_n 2, 1) := by decide +kernel
theorem d_Wr_writeValue_93 : decode b_Wr_writeValue 93 = .ok (.invokevirtual 55, 3) := by decide +kernel
theorem d_Wr_writeValue_96 : decode b_Wr_writeValue 96 = .ok (.return_, 1) := by decide +kernel
set_option maxHeartbeats 4000000 in
set_option maxRecDepth 100000 in
theorem c_Wr_writeValue (l : Launch) (E : gh_E) (P : Nat → Prop) : ∀ (n : Nat), wV l E P n := by
  intro n
  induction n with
  | zero => intro sz f a dg wt st v dep X _ h; exact h.elim
  | succ n ihn =>
    intro sz f a dg wt st v dep X hdep hv hvo hPa hPd hw
    refine gh_open (by decide) (Nat.le_of_ble_eq_true rfl) ?_
    intro p e s m args below meth c A ls hAe C V hr hlocks hname hl
    have hx := C.1
    have hb := C.2.1
    have hl : lv_has ls 3 [(0, .ref a), (1, .ref v), (2, .int (nI dep))] := hl
    have ho := vo_o.mp hvo
    have hk6 := ho.1
    obtain ⟨la_1, ka_1, ia_1, gk_1, gi_1, K_1, B_1, hp_1, h0_1, h1_1, h2_1, h3_1, h4_1, h5_1⟩ := cv_o.mp hv
    refine lv_iload_n hx hb d_Wr_writeValue_0 rfl (lv_at hl 2 rfl) ?_
    refine lv_bipush (v := 7) hx hb d_Wr_writeValue_1 (by decide) ?_
    refine lv_icmp_le (tgt := 7) hx hb d_Wr_writeValue_3 (by decide) (fun c2 => ?_) (fun c2 => absurd (nI_le (a := dep) (b := 7) (by omega) (by decide)) c2)
    refine lv_aload_n hx hb d_Wr_writeValue_7 rfl (lv_at hl 1 rfl) ?_
    refine gh_get C V h0_1 gc_Va gi_Va 0 (by decide) f_Wr_30 rfl rfl d_Wr_writeValue_8 ?_
    rcases (show vt_k X = 0 ∨ vt_k X = 1 ∨ vt_k X = 2 ∨ vt_k X = 3 ∨ vt_k X = 4 ∨ 5 ≤ vt_k X by omega) with hk | hk | hk | hk | hk | hk
    · rw [hk]
      refine lv_tableIn (off := 33) (tgt := 44) hx hb d_Wr_writeValue_11 (by decide) (by decide) (by decide) (by decide) ?_
      refine lv_aload_n hx hb d_Wr_writeValue_44 rfl (lv_at hl 0 rfl) ?_
      refine gs_ldcWr (i := 0) C (gs_K C).2.2.2.1 d_Wr_writeValue_45 ?_
      refine gh_callV C V hl.1 m_Wr_writeWord l_Wr_35 (c_Wr_writeWord l E _ _ a dg wt st 0 (by decide) hw) rfl hw.1 gc_Wr ⟨by first | decide | omega | (dsimp only; omega), by first | decide | omega | (dsimp only; omega)⟩ ⟨by first | decide | omega | (dsimp only; omega), by first | decide | omega | (dsimp only; omega)⟩ (Nat.le_of_ble_eq_true rfl) rfl d_Wr_writeValue_47 (fun r fv H locs hp9 V1 => ?_)
      obtain ⟨rfl, hw2, hfr2⟩ := hp9
      have V := V1
      refine W.eq (g2 := F0 m 50 ls []) rfl ?_
      refine lv_goto (tgt := 96) hx hb d_Wr_writeValue_50 (by decide) ?_
      refine gh_retv hAe C V hr hlocks d_Wr_writeValue_96 (by first | decide | omega | (dsimp only; omega)) (by first | decide | omega | (dsimp only; omega)) ?_
      exact ⟨rfl, by rw [wr_v_o, if_pos hk]; exact hw2, hfr2⟩
    · rw [hk]
      refine lv_tableIn (off := 42) (tgt := 53) hx hb d_Wr_writeValue_11 (by decide) (by decide) (by decide) (by decide) ?_
      refine lv_aload_n hx hb d_Wr_writeValue_53 rfl (lv_at hl 0 rfl) ?_
      refine gs_ldcWr (i := 1) C (gs_K C).2.2.2.2.1 d_Wr_writeValue_54 ?_
      refine gh_callV C V hl.1 m_Wr_writeWord l_Wr_35 (c_Wr_writeWord l E _ _ a dg wt st 1 (by decide) hw) rfl hw.1 gc_Wr ⟨by first | decide | omega | (dsimp only; omega), by first | decide | omega | (dsimp only; omega)⟩ ⟨by first | decide | omega | (dsimp only; omega), by first | decide | omega | (dsimp only; omega)⟩ (Nat.le_of_ble_eq_true rfl) rfl d_Wr_writeValue_56 (fun r fv H locs hp9 V1 => ?_)
      obtain ⟨rfl, hw2, hfr2⟩ := hp9
      have V := V1
      refine W.eq (g2 := F0 m 59 ls []) rfl ?_
      refine lv_goto (tgt := 96) hx hb d_Wr_writeValue_59 (by decide) ?_
      refine gh_retv hAe C V hr hlocks d_Wr_writeValue_96 (by first | decide | omega | (dsimp only; omega)) (by first | decide | omega | (dsimp only; omega)) ?_
      exact ⟨rfl, by rw [wr_v_o, if_neg (by omega), if_pos hk]; exact hw2, hfr2⟩
    · rw [hk]
      refine lv_tableIn (off := 51) (tgt := 62) hx hb d_Wr_writeValue_11 (by decide) (by decide) (by decide) (by decide) ?_
      refine lv_aload_n hx hb d_Wr_writeValue_62 rfl (lv_at hl 0 rfl) ?_
      refine gs_ldcWr (i := 2) C (gs_K C).2.2.2.2.2 d_Wr_writeValue_63 ?_
      refine gh_callV C V hl.1 m_Wr_writeWord l_Wr_35 (c_Wr_writeWord l E _ _ a dg wt st 2 (by decide) hw) rfl hw.1 gc_Wr ⟨by first | decide | omega | (dsimp only; omega), by first | decide | omega | (dsimp only; omega)⟩ ⟨by first | decide | omega | (dsimp only; omega), by first | decide | omega | (dsimp only; omega)⟩ (Nat.le_of_ble_eq_true rfl) rfl d_Wr_writeValue_65 (fun r fv H locs hp9 V1 => ?_)
      obtain ⟨rfl, hw2, hfr2⟩ := hp9
      have V := V1
      refine W.eq (g2 := F0 m 68 ls []) rfl ?_
      refine lv_goto (tgt := 96) hx hb d_Wr_writeValue_68 (by decide) ?_
      refine gh_retv hAe C V hr hlocks d_Wr_writeValue_96 (by first | decide | omega | (dsimp only; omega)) (by first | decide | omega | (dsimp only; omega)) ?_
      exact ⟨rfl, by rw [wr_v_o, if_neg (by omega), if_neg (by omega), if_pos hk]; exact hw2, hfr2⟩
    · rw [hk]
      refine lv_tableIn (off := 60) (tgt := 71) hx hb d_Wr_writeValue_11 (by decide) (by decide) (by decide) (by decide) ?_
      refine lv_aload_n hx hb d_Wr_writeValue_71 rfl (lv_at hl 0 rfl) ?_
      refine lv_aload_n hx hb d_Wr_writeValue_72 rfl (lv_at hl 1 rfl) ?_
      refine gh_get C V h0_1 gc_Va gi_Va 1 (by decide) f_Wr_43 rfl rfl d_Wr_writeValue_73 ?_
      refine gh_callV C V hl.1 m_Wr_writeInteger l_Wr_47 (c_Wr_writeInteger l E _ _ a dg wt st (vt_n X) hw) rfl hw.1 gc_Wr ⟨by first | decide | omega | (dsimp only; omega), by first | decide | omega | (dsimp only; omega)⟩ ⟨by first | decide | omega | (dsimp only; omega), by first | decide | omega | (dsimp only; omega)⟩ (Nat.le_of_ble_eq_true rfl) rfl d_Wr_writeValue_76 (fun r fv H locs hp9 V1 => ?_)
      obtain ⟨rfl, hw2, hfr2⟩ := hp9
      have V := V1
      refine W.eq (g2 := F0 m 79 ls []) rfl ?_
      refine lv_goto (tgt := 96) hx hb d_Wr_writeValue_79 (by decide) ?_
      refine gh_retv hAe C V hr hlocks d_Wr_writeValue_96 (by first | decide | omega | (dsimp only; omega)) (by first | decide | omega | (dsimp only; omega)) ?_
      exact ⟨rfl, by rw [wr_v_o, if_neg (by omega), if_neg (by omega), if_neg (by omega), if_pos hk]; exact hw2, hfr2⟩
    · rw [hk]
      refine lv_tableIn (off := 71) (tgt := 82) hx hb d_Wr_writeValue_11 (by decide) (by decide) (by decide) (by decide) ?_
      refine lv_aload_n hx hb d_Wr_writeValue_82 rfl (lv_at hl 0 rfl) ?_
      refine lv_aload_n hx hb d_Wr_writeValue_83 rfl (lv_at hl 1 rfl) ?_
      refine gh_callV C V hl.1 m_Wr_writeString l_Wr_51 (c_Wr_writeString l E _ _ a dg wt st P v la_1 (vt_l X) _ _ _ _ _ _ hPa hPd h0_1 hp_1.1 h1_1.1 ho.2.2.2.1 hw) rfl hw.1 gc_Wr ⟨by first | decide | omega | (dsimp only; omega), by first | decide | omega | (dsimp only; omega)⟩ ⟨by first | decide | omega | (dsimp only; omega), by first | decide | omega | (dsimp only; omega)⟩ (Nat.le_of_ble_eq_true rfl) rfl d_Wr_writeValue_84 (fun r fv H locs hp9 V1 => ?_)
      obtain ⟨rfl, hw2, hfr2⟩ := hp9
      have V := V1
      refine W.eq (g2 := F0 m 87 ls []) rfl ?_
      refine lv_goto (tgt := 96) hx hb d_Wr_writeValue_87 (by decide) ?_
      refine gh_retv hAe C V hr hlocks d_Wr_writeValue_96 (by first | decide | omega | (dsimp only; omega)) (by first | decide | omega | (dsimp only; omega)) ?_
      exact ⟨rfl, by rw [wr_v_o, if_neg (by omega), if_neg (by omega), if_neg (by omega), if_neg (by omega), if_pos hk]; exact hw2, hfr2⟩
    · refine lv_tableOut (tgt := 90) hx hb d_Wr_writeValue_11 (Or.inr (by rw [nI_toInt (by omega)]; omega)) (by decide) ?_
      refine lv_aload_n hx hb d_Wr_writeValue_90 rfl (lv_at hl 0 rfl) ?_
      refine lv_aload_n hx hb d_Wr_writeValue_91 rfl (lv_at hl 1 rfl) ?_
      refine lv_iload_n hx hb d_Wr_writeValue_92 rfl (lv_at hl 2 rfl) ?_
      refine gh_callV C V hl.1 m_Wr_writeItems l_Wr_55 (c_Wr_writeItems l E P n ihn _ _ a dg wt st v dep X hdep hv hvo hk hPa hPd hw) rfl hw.1 gc_Wr ⟨by first | decide | omega | (dsimp only; omega), by first | decide | omega | (dsimp only; omega)⟩ ⟨by first | decide | omega | (dsimp only; omega), by first | decide | omega | (dsimp only; omega)⟩ (Nat.le_of_ble_eq_true rfl) rfl d_Wr_writeValue_93 (fun r fv H locs hp9 V1 => ?_)
      obtain ⟨rfl, hw2, hfr2⟩ := hp9
      have V := V1
      refine W.eq (g2 := F0 m 96 ls []) rfl ?_
      refine gh_retv hAe C V hr hlocks d_Wr_writeValue_96 (by first | decide | omega | (dsimp only; omega)) (by first | decide | omega | (dsimp only; omega)) ?_
      exact ⟨rfl, by rw [wr_v_o, if_neg (by omega), if_neg (by omega), if_neg (by omega), if_neg (by omega), if_neg (by omega)]; exact hw2, hfr2⟩
theorem d_Wr_write_0 : decode b_Wr_write 0 = .ok (.aload_n 0, 1) := by decide +kernel
theorem d_Wr_write_1 : decode b_Wr_write 1 = .ok (.iload_n 2, 1) := by decide +kernel
theorem d_Wr_write_2 : decode b_Wr_write 2 = .ok (.putfield 13, 3) := by decide +kernel
theorem d_Wr_write_5 : decode b_Wr_write 5 = .ok (.aload_n 0, 1) := by decide +kernel
theorem d_Wr_write_6 : decode b_Wr_write 6 = .ok (.iconst 0, 1) := by decide +kernel
theorem d_Wr_write_7 : decode b_Wr_write 7 = .ok (.putfield 17, 3) := by decide +kernel
theorem d_Wr_write_10 : decode b_Wr_write 10 = .ok (.aload_n 0, 1) := by decide +kernel
theorem d_Wr_write_11 : decode b_Wr_write 11 = .ok (.iconst 0, 1) := by decide +kernel
theorem d_Wr_write_12 : decode b_Wr_write 12 = .ok (.putfield 21, 3) := by decide +kernel
theorem d_Wr_write_15 : decode b_Wr_write 15 = .ok (.aload_n 0, 1) := by decide +kernel
theorem d_Wr_write_16 : decode b_Wr_write 16 = .ok (.aload_n 1, 1) := by decide +kernel
theorem d_Wr_write_17 : decode b_Wr_write 17 = .ok (.iconst 0, 1) := by decide +kernel
theorem d_Wr_write_18 : decode b_Wr_write 18 = .ok (.invokevirtual 24, 3) := by decide +kernel
theorem d_Wr_write_21 : decode b_Wr_write 21 = .ok (.return_, 1) := by decide +kernel
set_option maxHeartbeats 4000000 in
set_option maxRecDepth 100000 in
theorem c_Wr_write (l : Launch) (E : gh_E) (sz : Nat) (f : gh_F) (a dg : Nat) (wt : Int32) (st : Nat × Int32) (P : Nat → Prop) (v : Nat) (X : vt) (k : Int32) (hv : cw E P f v X) (hPa : ¬ P a) (hPd : ¬ P dg) (hw : wS E f a dg wt st) : gh_M l y_Wr_write b_Wr_write 3 none E sz [.ref a, .ref v, .int k] f { frames := 32, cells := 0, slots := 0, locals := 820 } (fun r g => r = none ∧ wS E g a dg k (wr_l k (0, 0) (wr_v 8 X)) ∧ gh_fr f g (wM a dg)) := by
  obtain ⟨hwa, hh, hwd⟩ := hw
  refine gh_open (by decide) (Nat.le_of_ble_eq_true rfl) ?_
  intro p e s m args below meth c A ls hAe C V hr hlocks hname hl
  have hx := C.1
  have hb := C.2.1
  have hl : lv_has ls 3 [(0, .ref a), (1, .ref v), (2, .int k)] := hl
  have hfr : gh_fr f f (fun b => b ∈ ([a] : List Nat)) := gh_fr.rf
  refine lv_aload_n hx hb d_Wr_write_0 rfl (lv_at hl 0 rfl) ?_
  refine lv_iload_n hx hb d_Wr_write_1 rfl (lv_at hl 2 rfl) ?_
  refine gh_put C V hwa gc_Wr gi_Wr ty_Wr nm_Wr 1 (by decide) f_Wr_13 rfl (by first | rfl | decide) (by first | rfl | decide) (Nat.le_of_ble_eq_true rfl) d_Wr_write_2 (fun H locs V => ?_)
  obtain ⟨f1, hff1⟩ : ∃ z9 : gh_F, z9 = gh_u f a (.inr (8, [.ref dg, .int k, .int st.2, .int (nI st.1)])) := ⟨_, rfl⟩
  have V : gh_V E A f1 s H locs := by rw [hff1]; exact V
  have hfr : gh_fr f f1 (fun b => b ∈ ([a] : List Nat)) := by rw [hff1]; exact hfr.put (Or.inl (by simp))
  have h_dg_f1 : f1 dg = some (.inl (E.2.2.1 2, 19, .inl hh)) := by rw [hff1, gh_un (gh_nek hwd hwa (show (100 : Nat) ≠ 8 by decide))]; exact hwd
  have h_a_f1 : f1 a = some (.inr (8, [.ref dg, .int k, .int st.2, .int (nI st.1)])) := by rw [hff1, gh_us]
  refine lv_aload_n hx hb d_Wr_write_5 rfl (lv_at hl 0 rfl) ?_
  refine lv_iconst (v := 0) hx hb d_Wr_write_6 (by decide) ?_
  refine gh_put C V h_a_f1 gc_Wr gi_Wr ty_Wr nm_Wr 2 (by decide) f_Wr_17 rfl (by first | rfl | decide) (by first | rfl | decide) (Nat.le_of_ble_eq_true rfl) d_Wr_write_7 (fun H locs V => ?_)
  obtain ⟨f2, hff2⟩ : ∃ z9 : gh_F, z9 = gh_u f1 a (.inr (8, [.ref dg, .int k, .int 0, .int (nI st.1)])) := ⟨_, rfl⟩
  have V : gh_V E A f2 s H locs := by rw [hff2]; exact V
  have hfr : gh_fr f f2 (fun b => b ∈ ([a] : List Nat)) := by rw [hff2]; exact hfr.put (Or.inl (by simp))
  have h_dg_f2 : f2 dg = some (.inl (E.2.2.1 2, 19, .inl hh)) := by rw [hff2, gh_un (gh_nek h_dg_f1 h_a_f1 (show (100 : Nat) ≠ 8 by decide))]; exact h_dg_f1
  have h_a_f2 : f2 a = some (.inr (8, [.ref dg, .int k, .int 0, .int (nI st.1)])) := by rw [hff2, gh_us]
  refine lv_aload_n hx hb d_Wr_write_10 rfl (lv_at hl 0 rfl) ?_
  refine lv_iconst (v := 0) hx hb d_Wr_write_11 (by decide) ?_
  refine gh_put C V h_a_f2 gc_Wr gi_Wr ty_Wr nm_Wr 3 (by decide) f_Wr_21 rfl (by first | rfl | decide) (by first | rfl | decide) (Nat.le_of_ble_eq_true rfl) d_Wr_write_12 (fun H locs V => ?_)
  obtain ⟨f3, hff3⟩ : ∃ z9 : gh_F, z9 = gh_u f2 a (.inr (8, [.ref dg, .int k, .int 0, .int 0])) := ⟨_, rfl⟩
  have V : gh_V E A f3 s H locs := by rw [hff3]; exact V
  have hfr : gh_fr f f3 (fun b => b ∈ ([a] : List Nat)) := by rw [hff3]; exact hfr.put (Or.inl (by simp))
  have h_dg_f3 : f3 dg = some (.inl (E.2.2.1 2, 19, .inl hh)) := by rw [hff3, gh_un (gh_nek h_dg_f2 h_a_f2 (show (100 : Nat) ≠ 8 by decide))]; exact h_dg_f2
  have h_a_f3 : f3 a = some (.inr (8, [.ref dg, .int k, .int 0, .int 0])) := by rw [hff3, gh_us]
  refine lv_aload_n hx hb d_Wr_write_15 rfl (lv_at hl 0 rfl) ?_
  refine lv_aload_n hx hb d_Wr_write_16 rfl (lv_at hl 1 rfl) ?_
  refine lv_iconst (v := 0) hx hb d_Wr_write_17 (by decide) ?_
  have hw : wS E f3 a dg k (0, 0) := ⟨h_a_f3, _, h_dg_f3⟩
  have hfr : gh_fr f f3 (wM a dg) := hfr.wide (fun b hb => Or.inl (List.mem_singleton.mp hb))
  have hv1 := hv.keep hfr (wM.P hPa hPd)
  refine gh_callV C V hl.1 m_Wr_writeValue l_Wr_24 (c_Wr_writeValue l E P 8 _ _ a dg k (0, 0) v 0 X rfl hv1.1 hv1.2 hPa hPd hw) rfl hw.1 gc_Wr ⟨by first | decide | omega | (dsimp only; omega), by first | decide | omega | (dsimp only; omega)⟩ ⟨by first | decide | omega | (dsimp only; omega), by first | decide | omega | (dsimp only; omega)⟩ (Nat.le_of_ble_eq_true rfl) rfl d_Wr_write_18 (fun r fv H locs hp9 V1 => ?_)
  obtain ⟨rfl, hw2, hfr2⟩ := hp9
  have V := V1
  refine W.eq (g2 := F0 m 21 ls []) rfl ?_
  refine gh_retv hAe C V hr hlocks d_Wr_write_21 (by first | decide | omega | (dsimp only; omega)) (by first | decide | omega | (dsimp only; omega)) ?_
  exact ⟨rfl, hw2, wM.tr hfr hfr2⟩
