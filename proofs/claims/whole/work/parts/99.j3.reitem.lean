/-! Reader: made, readItem, readMember, readItems, readValue, read. Printed by wip/whole/gen_re4.py. -/
theorem rb_n32 {tx : Nat → Nat} {n : Nat} : ∀ {m p : Nat}, n ≤ p + m → sg tx n (rb tx n m p) ≠ 32 := by
  intro m
  induction m with
  | zero =>
    intro p h z
    have := sg_lt (tx := tx) (n := n) (p := p) (by rw [show sg tx n p = 32 from z]; decide)
    omega
  | succ m ih =>
    intro p h
    unfold rb
    split
    · exact ih (by omega)
    · assumption
theorem rbl_n32 {tx : Nat → Nat} {n p : Nat} : sg tx n (rbl tx n p) ≠ 32 := rb_n32 (by omega)
theorem rbl_rbl {tx : Nat → Nat} {n p : Nat} : rbl tx n (rbl tx n p) = rbl tx n p := rbl_id rbl_n32
/-- the contract of readValue, with d levels left -/
def re_V (l : Launch) (E : gh_E) (ρ Z tx : Nat → Nat) (n d : Nat) : Prop := ∀ (sz : Nat) (f : gh_F) (pl : Nat) (bd : Int32) (dp Q : Nat) (O : Option vt), dp + d = 8 → pl ≤ n → rd_v tx n false d pl = (Q, O) → re_A E ρ Z tx n f pl bd → gh_M l y_Re_readValue b_Re_readValue 2 (some (.object "QueryMachine$Value")) E sz [.ref (Z 8), .int (nI dp)] f { frames := 14 + 4 * d, cells := 4 * (Q - pl) + 4, slots := 60 * (Q - pl) + 60, locals := 300 + 120 * d } (fun r g => re_O E ρ Z tx n g bd (Q, O) r ∧ gh_fr f g (re_M ρ dp))
/-- an item or a member -/
def re_I (tx : Nat → Nat) (n : Nat) (ob : Bool) (d p : Nat) : Nat × Option (List Int32 × vt) := match (if ob = true then rd_K tx n p else (p, some [])) with
  | (q, none) => (q, none)
  | (q, some L) => match rd_v tx n false d q with
    | (q2, none) => (q2, none)
    | (q2, some X) => (q2, some (L, X))
theorem rd_l_i {tx : Nat → Nat} {n d : Nat} {ob : Bool} {c : Nat} {r : List (List Int32) × List vt} {p : Nat} : rd_l tx n (rd_v tx n false d) ob (c + 1) r p = (match re_I tx n ob d p with
    | (q2, none) => (q2, none)
    | (q2, some e) => if sg tx n (rbl tx n q2) = rcc ob then (rbl tx n q2 + 1, some (rd_ad ob r e.1 e.2)) else if c = 0 ∨ sg tx n (rbl tx n q2) ≠ 44 then (rbl tx n q2, none) else rd_l tx n (rd_v tx n false d) ob c (rd_ad ob r e.1 e.2) (rbl tx n q2 + 1)) := by
  rw [rd_l_o]
  unfold re_I
  cases (if ob = true then rd_K tx n p else (p, some [])) with
  | mk q o =>
    cases o with
    | none => rfl
    | some L =>
      dsimp only
      cases rd_v tx n false d q with
      | mk q2 o2 => cases o2 <;> rfl
theorem re_I_ok {tx : Nat → Nat} {n d p q : Nat} {ob : Bool} {oo : Option (List Int32 × vt)} (hch : ∀ j, j < n → 32 ≤ tx j ∧ tx j ≤ 126) (hn : n ≤ 120) (hd : d ≤ 8) (hp : p ≤ n) (h : re_I tx n ob d p = (q, oo)) : p ≤ q ∧ q ≤ n ∧ ∀ e, oo = some e → p < q ∧ vo 8 e.2 ∧ vt_h e.2 < d ∧ (ob = true → lt_ok e.1) := by
  unfold re_I at h
  cases hK : (if ob = true then rd_K tx n p else (p, some [])) with
  | mk q1 o1 =>
    rw [hK] at h
    have hk : p ≤ q1 ∧ q1 ≤ n ∧ ∀ L, o1 = some L → (ob = true → lt_ok L) := by
      cases ob with
      | false => cases hK; exact ⟨Nat.le_refl _, hp, fun L _ z => by cases z⟩
      | true =>
        have := rd_K_ok hch hp hK
        exact ⟨this.1, this.2.1, fun L hL _ => (this.2.2 L hL).2⟩
    cases o1 with
    | none => cases h; exact ⟨hk.1, hk.2.1, fun e he => by cases he⟩
    | some L =>
      dsimp only at h
      cases hv : rd_v tx n false d q1 with
      | mk q2 o2 =>
        rw [hv] at h
        have hv2 := rd_v_ok hch hn hd hk.2.1 hv
        have hge := rbl_ge (tx := tx) (n := n) (p := q1)
        cases o2 with
        | none => cases h; exact ⟨by omega, hv2.2.1, fun e he => by cases he⟩
        | some X =>
          cases h
          have h3 := hv2.2.2 X rfl
          exact ⟨by omega, hv2.2.1, fun e he => by cases he; exact ⟨by omega, h3.2.1, h3.2.2.1, hk.2.2 L rfl⟩⟩
/-- what an item or a member leaves -/
def re_J (E : gh_E) (ρ Z tx : Nat → Nat) (n : Nat) (g : gh_F) (bd : Int32) (dp : Nat) (ob : Bool) (r0 : List (List Int32) × List vt) (Q : Nat) (O : Option (List Int32 × vt)) (r : Option Value) : Prop := match O with
  | none => r = some (.int 0) ∧ re_A E ρ Z tx n g Q (nI Q)
  | some e => r = some (.int 1) ∧ re_A E ρ Z tx n g Q bd ∧ ga_R E (rP ρ) g (Z (100 + 3 * dp)) (Z (101 + 3 * dp)) (Z (102 + 3 * dp)) (rd_ad ob r0 e.1 e.2).1 (rd_ad ob r0 e.1 e.2).2
/-- the gathering of depth dp is no business of a reading further in -/
theorem re_gin {ρ Z : Nat → Nat} (hz : rZ ρ Z) {dp : Nat} (hd : dp < 8) : ¬ re_M ρ (dp + 1) (Z (100 + 3 * dp)) ∧ ¬ re_M ρ (dp + 1) (Z (101 + 3 * dp)) ∧ ¬ re_M ρ (dp + 1) (Z (102 + 3 * dp)) := by
  have e0 := hz (100 + 3 * dp) (by unfold rU; omega)
  have e1 := hz (101 + 3 * dp) (by unfold rU; omega)
  have e2 := hz (102 + 3 * dp) (by unfold rU; omega)
  unfold re_M
  omega
theorem re_M8 {ρ Z : Nat → Nat} (hz : rZ ρ Z) {dp : Nat} (hd : dp < 8) : ¬ re_M ρ 8 (Z (100 + 3 * dp)) ∧ ¬ re_M ρ 8 (Z (101 + 3 * dp)) ∧ ¬ re_M ρ 8 (Z (102 + 3 * dp)) := by
  have e0 := hz (100 + 3 * dp) (by unfold rU; omega)
  have e1 := hz (101 + 3 * dp) (by unfold rU; omega)
  have e2 := hz (102 + 3 * dp) (by unfold rU; omega)
  unfold re_M
  omega
theorem d_Re_made_0 : decode b_Re_made 0 = .ok (.iload_n 2, 1) := by decide +kernel
theorem d_Re_made_1 : decode b_Re_made 1 = .ok (.ifCond .eq 14, 3) := by decide +kernel
theorem d_Re_made_4 : decode b_Re_made 4 = .ok (.aload_n 0, 1) := by decide +kernel
theorem d_Re_made_5 : decode b_Re_made 5 = .ok (.getfield 7, 3) := by decide +kernel
theorem d_Re_made_8 : decode b_Re_made 8 = .ok (.aload_n 1, 1) := by decide +kernel
theorem d_Re_made_9 : decode b_Re_made 9 = .ok (.invokevirtual 110, 3) := by decide +kernel
theorem d_Re_made_12 : decode b_Re_made 12 = .ok (.goto 11, 3) := by decide +kernel
theorem d_Re_made_15 : decode b_Re_made 15 = .ok (.aload_n 0, 1) := by decide +kernel
theorem d_Re_made_16 : decode b_Re_made 16 = .ok (.getfield 7, 3) := by decide +kernel
theorem d_Re_made_19 : decode b_Re_made 19 = .ok (.aload_n 1, 1) := by decide +kernel
theorem d_Re_made_20 : decode b_Re_made 20 = .ok (.invokevirtual 114, 3) := by decide +kernel
theorem d_Re_made_23 : decode b_Re_made 23 = .ok (.areturn, 1) := by decide +kernel
set_option maxHeartbeats 4000000 in
set_option maxRecDepth 100000 in
theorem c_Re_made5 (l : Launch) (E : gh_E) (sz : Nat) (f : gh_F) (ρ Z tx : Nat → Nat) (n pl : Nat) (bd : Int32) (dp : Nat) (ks : List (List Int32)) (xs : List vt) (hA : re_A E ρ Z tx n f pl bd) (hg : ga_R E (rP ρ) f (Z (100 + 3 * dp)) (Z (101 + 3 * dp)) (Z (102 + 3 * dp)) ks xs) (hlim : vt_wsum xs ≤ 100 ∧ vt_hmax xs ≤ 7) : gh_M l y_Re_made b_Re_made 3 (some (.object "QueryMachine$Value")) E sz [.ref (Z 8), .ref (Z (100 + 3 * dp)), .int 0] f { frames := 4, cells := 3, slots := 39, locals := 100 } (fun r g => (∃ v, r = some (.ref v) ∧ cw E (rP ρ) g v (vt_m 5 [] xs)) ∧ re_A E ρ Z tx n g pl bd ∧ gh_fr f g (fun b => b ∈ ([] : List Nat))) := by
  refine gh_open (by decide) (Nat.le_of_ble_eq_true rfl) ?_
  intro p e s m args below meth c A ls hAe C V hr hlocks hname hl
  have hx := C.1
  have hb := C.2.1
  have hl : lv_has ls 3 [(0, .ref (Z 8)), (1, .ref (Z (100 + 3 * dp))), (2, .int 0)] := hl
  refine lv_iload_n hx hb d_Re_made_0 rfl (lv_at hl 2 rfl) ?_
  refine lv_if_eq (tgt := 15) hx hb d_Re_made_1 (by decide) (fun c1 => ?_) (fun c1 => absurd (by decide) c1)
  refine lv_aload_n hx hb d_Re_made_15 rfl (lv_at hl 0 rfl) ?_
  refine gh_get C V hA.1 gc_Re gi_Re 0 (by decide) f_Re_7 rfl rfl d_Re_made_16 ?_
  refine lv_aload_n hx hb d_Re_made_19 rfl (lv_at hl 1 rfl) ?_
  refine gh_callV C V hl.1 m_Vs_list l_Re_114 (c_Vs_list l E _ _ (rP ρ) _ _ _ _ _ _ _ _ _ _ ks xs hA.2.1.2.2.2.1 hA.2.1.2.2.2.2.1 hg) rfl hA.2.1.2.2.2.1.2.1 gc_Vs ⟨by first | decide | omega | (dsimp only; omega), by first | decide | omega | (dsimp only; omega)⟩ ⟨by first | decide | omega | (dsimp only; omega), by first | decide | omega | (dsimp only; omega)⟩ (Nat.le_of_ble_eq_true rfl) rfl d_Re_made_20 (fun r gs H locs hp9 V1 => ?_)
  obtain ⟨hr9, hfr2⟩ := hp9
  rw [show vt_mk 5 [] xs = some (vt_m 5 [] xs) from if_pos hlim] at hr9
  obtain ⟨v9, rfl, hv9⟩ := hr9
  have V := V1
  refine W.eq (g2 := F0 m 23 ls [.ref v9]) rfl ?_
  refine gh_reta hAe C V hr (by first | exact Or.inl ⟨_, rfl⟩ | exact Or.inr ⟨_, rfl⟩) (by first | exact Or.inl rfl | exact Or.inr ⟨_, rfl⟩) hlocks d_Re_made_23 (by first | decide | omega | (dsimp only; omega)) (by first | decide | omega | (dsimp only; omega)) ?_
  exact ⟨⟨_, rfl, hv9⟩, hA.new hfr2, hfr2⟩
set_option maxHeartbeats 4000000 in
set_option maxRecDepth 100000 in
theorem c_Re_made6 (l : Launch) (E : gh_E) (sz : Nat) (f : gh_F) (ρ Z tx : Nat → Nat) (n pl : Nat) (bd : Int32) (dp : Nat) (ks : List (List Int32)) (xs : List vt) (hA : re_A E ρ Z tx n f pl bd) (hg : ga_R E (rP ρ) f (Z (100 + 3 * dp)) (Z (101 + 3 * dp)) (Z (102 + 3 * dp)) ks xs) (hlim : vt_wsum xs ≤ 100 ∧ vt_hmax xs ≤ 7) (hkl : ks.length = xs.length) : gh_M l y_Re_made b_Re_made 3 (some (.object "QueryMachine$Value")) E sz [.ref (Z 8), .ref (Z (100 + 3 * dp)), .int 1] f { frames := 4, cells := 3, slots := 39, locals := 100 } (fun r g => (∃ v, r = some (.ref v) ∧ cw E (rP ρ) g v (vt_m 6 ks xs)) ∧ re_A E ρ Z tx n g pl bd ∧ gh_fr f g (fun b => b ∈ ([] : List Nat))) := by
  refine gh_open (by decide) (Nat.le_of_ble_eq_true rfl) ?_
  intro p e s m args below meth c A ls hAe C V hr hlocks hname hl
  have hx := C.1
  have hb := C.2.1
  have hl : lv_has ls 3 [(0, .ref (Z 8)), (1, .ref (Z (100 + 3 * dp))), (2, .int 1)] := hl
  refine lv_iload_n hx hb d_Re_made_0 rfl (lv_at hl 2 rfl) ?_
  refine lv_if_eq (tgt := 15) hx hb d_Re_made_1 (by decide) (fun c1 => absurd c1 (by decide)) (fun c1 => ?_)
  refine lv_aload_n hx hb d_Re_made_4 rfl (lv_at hl 0 rfl) ?_
  refine gh_get C V hA.1 gc_Re gi_Re 0 (by decide) f_Re_7 rfl rfl d_Re_made_5 ?_
  refine lv_aload_n hx hb d_Re_made_8 rfl (lv_at hl 1 rfl) ?_
  refine gh_callV C V hl.1 m_Vs_object l_Re_110 (c_Vs_object l E _ _ (rP ρ) _ _ _ _ _ _ _ _ _ _ ks xs hA.2.1.2.2.2.1 hA.2.1.2.2.2.2.1 hg hkl) rfl hA.2.1.2.2.2.1.2.1 gc_Vs ⟨by first | decide | omega | (dsimp only; omega), by first | decide | omega | (dsimp only; omega)⟩ ⟨by first | decide | omega | (dsimp only; omega), by first | decide | omega | (dsimp only; omega)⟩ (Nat.le_of_ble_eq_true rfl) rfl d_Re_made_9 (fun r gs H locs hp9 V1 => ?_)
  obtain ⟨hr9, hfr2⟩ := hp9
  rw [show vt_mk 6 ks xs = some (vt_m 6 ks xs) from if_pos hlim] at hr9
  obtain ⟨v9, rfl, hv9⟩ := hr9
  have V := V1
  refine W.eq (g2 := F0 m 12 ls [.ref v9]) rfl ?_
  refine lv_goto (tgt := 23) hx hb d_Re_made_12 (by decide) ?_
  refine gh_reta hAe C V hr (by first | exact Or.inl ⟨_, rfl⟩ | exact Or.inr ⟨_, rfl⟩) (by first | exact Or.inl rfl | exact Or.inr ⟨_, rfl⟩) hlocks d_Re_made_23 (by first | decide | omega | (dsimp only; omega)) (by first | decide | omega | (dsimp only; omega)) ?_
  exact ⟨⟨_, rfl, hv9⟩, hA.new hfr2, hfr2⟩
theorem d_Re_readItem_0 : decode b_Re_readItem 0 = .ok (.aload_n 0, 1) := by decide +kernel
theorem d_Re_readItem_1 : decode b_Re_readItem 1 = .ok (.iload_n 2, 1) := by decide +kernel
theorem d_Re_readItem_2 : decode b_Re_readItem 2 = .ok (.invokevirtual 45, 3) := by decide +kernel
theorem d_Re_readItem_5 : decode b_Re_readItem 5 = .ok (.astore_n 3, 1) := by decide +kernel
theorem d_Re_readItem_6 : decode b_Re_readItem 6 = .ok (.aload_n 3, 1) := by decide +kernel
theorem d_Re_readItem_7 : decode b_Re_readItem 7 = .ok (.ifnull 15, 3) := by decide +kernel
theorem d_Re_readItem_10 : decode b_Re_readItem 10 = .ok (.aload_n 1, 1) := by decide +kernel
theorem d_Re_readItem_11 : decode b_Re_readItem 11 = .ok (.aload_n 3, 1) := by decide +kernel
theorem d_Re_readItem_12 : decode b_Re_readItem 12 = .ok (.invokevirtual 117, 3) := by decide +kernel
theorem d_Re_readItem_15 : decode b_Re_readItem 15 = .ok (.ifCond .eq 7, 3) := by decide +kernel
theorem d_Re_readItem_18 : decode b_Re_readItem 18 = .ok (.iconst 1, 1) := by decide +kernel
theorem d_Re_readItem_19 : decode b_Re_readItem 19 = .ok (.goto 4, 3) := by decide +kernel
theorem d_Re_readItem_22 : decode b_Re_readItem 22 = .ok (.iconst 0, 1) := by decide +kernel
theorem d_Re_readItem_23 : decode b_Re_readItem 23 = .ok (.ireturn, 1) := by decide +kernel
set_option maxHeartbeats 4000000 in
set_option maxRecDepth 100000 in
theorem c_Re_readItem (l : Launch) (E : gh_E) (ρ Z tx : Nat → Nat) (n d : Nat) (ihv : re_V l E ρ Z tx n d) (sz : Nat) (f : gh_F) (pl : Nat) (bd : Int32) (dp Q : Nat) (r0 : List (List Int32) × List vt) (O : Option (List Int32 × vt)) (hdp : dp + (d + 1) = 8) (hp : pl ≤ n) (hR : re_I tx n false d pl = (Q, O)) (hA : re_A E ρ Z tx n f pl bd) (hg : ga_R E (rP ρ) f (Z (100 + 3 * dp)) (Z (101 + 3 * dp)) (Z (102 + 3 * dp)) r0.1 r0.2) (h15 : r0.2.length < 16) : gh_M l y_Re_readItem b_Re_readItem 4 (some .boolean) E sz [.ref (Z 8), .ref (Z (100 + 3 * dp)), .int (nI (dp + 1))] f { frames := 15 + 4 * d, cells := 4 * (Q - pl) + 4, slots := 60 * (Q - pl) + 60, locals := 340 + 120 * d } (fun r g => re_J E ρ Z tx n g bd dp false r0 Q O r ∧ gh_fr f g (re_M ρ dp)) := by
  refine gh_open (by decide) (Nat.le_of_ble_eq_true rfl) ?_
  intro p e s m args below meth c A ls hAe C V hr hlocks hname hl
  have hx := C.1
  have hb := C.2.1
  have hl : lv_has ls 4 [(0, .ref (Z 8)), (1, .ref (Z (100 + 3 * dp))), (2, .int (nI (dp + 1)))] := hl
  have h120 := hA.n
  have hch : ∀ j, j < n → 32 ≤ tx j ∧ tx j ≤ 126 := hA.2.1.2.2.2.2.2.2.2
  have hz := hA.2.1.1
  have hgi := re_gin hz (show dp < 8 by omega)
  have hg8 := re_M8 hz (show dp < 8 by omega)
  have hok := re_I_ok hch h120 (by omega) hp hR
  have hfr : gh_fr f f (re_M ρ dp) := gh_fr.rf
  unfold re_I at hR
  have hR : (match rd_v tx n false d pl with | (q2, none) => (q2, none) | (q2, some X) => (q2, some (([] : List Int32), X))) = (Q, O) := hR
  refine lv_aload_n hx hb d_Re_readItem_0 rfl (lv_at hl 0 rfl) ?_
  refine lv_iload_n hx hb d_Re_readItem_1 rfl (lv_at hl 2 rfl) ?_
  cases hv : rd_v tx n false d (pl) with
  | mk q9 o9 =>
    rw [hv] at hR
    have hv2 := rd_v_ok hch h120 (by omega) (by omega) hv
    have hge9 := rbl_ge (tx := tx) (n := n) (p := pl)
    have hq9 : q9 = Q := by cases o9 <;> cases hR <;> rfl
    rw [hq9] at hv hv2
    refine gh_callV C V hl.1 m_Re_readValue l_Re_45 (ihv _ _ (pl) bd (dp + 1) Q o9 (by omega) (by omega) hv hA) rfl hA.1 gc_Re ⟨by first | decide | omega | (dsimp only; omega), by first | decide | omega | (dsimp only; omega)⟩ ⟨by first | decide | omega | (dsimp only; omega), by first | decide | omega | (dsimp only; omega)⟩ (Nat.le_of_ble_eq_true rfl) rfl d_Re_readItem_2 (fun r gv H locs hp9 V1 => ?_)
    obtain ⟨hr9, hfr2⟩ := hp9
    have V := V1
    have hg := hg.keep hfr2 re_M.P hgi.1 hgi.2.1 hgi.2.2
    have hfr := re_tr hfr hfr2 (by omega)
    cases o9 with
    | none =>
      obtain ⟨rfl, hA⟩ := hr9
      refine W.eq (g2 := F0 m 5 ls [.null]) rfl ?_
      have hO : O = none := by cases hR; rfl
      rw [hO]
      refine lv_astore_nN hx hb d_Re_readItem_5 rfl hl (by decide) rfl (fun ls hl => ?_)
      have hl : lv_has ls 4 [(3, .null), (0, .ref (Z 8)), (1, .ref (Z (100 + 3 * dp))), (2, .int (nI (dp + 1)))] := hl
      refine lv_aload_nN hx hb d_Re_readItem_6 rfl (lv_at hl 0 rfl) ?_
      refine lv_ifnullN (tgt := 22) hx hb d_Re_readItem_7 (by decide) ?_
      refine lv_iconst (v := 0) hx hb d_Re_readItem_22 (by decide) ?_
      refine gh_retz hAe C V hr (by first | rfl | exact gh_bi_nar _ | decide) hlocks d_Re_readItem_23 (by first | decide | omega | (dsimp only; omega)) (by first | decide | omega | (dsimp only; omega)) ?_
      exact ⟨⟨rfl, hA⟩, hfr⟩
    | some X9 =>
      obtain ⟨⟨v9, rfl, hv9⟩, hA⟩ := hr9
      refine W.eq (g2 := F0 m 5 ls [.ref v9]) rfl ?_
      have hO : O = some ([], X9) := by cases hR; rfl
      rw [hO]
      refine lv_astore_n hx hb d_Re_readItem_5 rfl hl (by decide) rfl (fun ls hl => ?_)
      have hl : lv_has ls 4 [(3, .ref v9), (0, .ref (Z 8)), (1, .ref (Z (100 + 3 * dp))), (2, .int (nI (dp + 1)))] := hl
      refine lv_aload_n hx hb d_Re_readItem_6 rfl (lv_at hl 0 rfl) ?_
      refine lv_ifnull hx hb d_Re_readItem_7 ?_
      refine lv_aload_n hx hb d_Re_readItem_10 rfl (lv_at hl 2 rfl) ?_
      refine lv_aload_n hx hb d_Re_readItem_11 rfl (lv_at hl 0 rfl) ?_
      obtain ⟨hga1, hga2⟩ := id hg
      obtain ⟨-, gk9, gi9, K9, B9, hga, -⟩ := hga2
      refine gh_callV C V hl.1 m_Ga_add l_Re_117 (c_Ga_add l E _ _ (rP ρ) _ _ _ _ _ v9 X9 hg hv9) rfl hga gc_Ga ⟨by first | decide | omega | (dsimp only; omega), by first | decide | omega | (dsimp only; omega)⟩ ⟨by first | decide | omega | (dsimp only; omega), by first | decide | omega | (dsimp only; omega)⟩ (Nat.le_of_ble_eq_true rfl) rfl d_Re_readItem_12 (fun r ga H locs hp9 V1 => ?_)
      obtain ⟨rfl, hg2, hfr3⟩ := hp9.1 h15
      have V := V1
      refine W.eq (g2 := F0 m 15 ls [.int 1]) rfl ?_
      have hA3 := hA.ga (show dp < 8 by omega) hfr3 hg2.raw
      refine lv_if_eq (tgt := 22) hx hb d_Re_readItem_15 (by decide) (fun c1 => absurd c1 (by decide)) (fun c1 => ?_)
      refine lv_iconst (v := 1) hx hb d_Re_readItem_18 (by decide) ?_
      refine lv_goto (tgt := 23) hx hb d_Re_readItem_19 (by decide) ?_
      refine gh_retz hAe C V hr (by first | rfl | exact gh_bi_nar _ | decide) hlocks d_Re_readItem_23 (by first | decide | omega | (dsimp only; omega)) (by first | decide | omega | (dsimp only; omega)) ?_
      exact ⟨⟨rfl, hA3.1, hg2⟩, hfr.tr hA3.2 (fun _ _ _ z => z)⟩
theorem d_Re_readMember_0 : decode b_Re_readMember 0 = .ok (.aload_n 0, 1) := by decide +kernel
theorem d_Re_readMember_1 : decode b_Re_readMember 1 = .ok (.invokevirtual 49, 3) := by decide +kernel
theorem d_Re_readMember_4 : decode b_Re_readMember 4 = .ok (.aload_n 0, 1) := by decide +kernel
theorem d_Re_readMember_5 : decode b_Re_readMember 5 = .ok (.invokevirtual 56, 3) := by decide +kernel
theorem d_Re_readMember_8 : decode b_Re_readMember 8 = .ok (.bipush 34, 2) := by decide +kernel
theorem d_Re_readMember_10 : decode b_Re_readMember 10 = .ok (.if_icmp .ne 10, 3) := by decide +kernel
theorem d_Re_readMember_13 : decode b_Re_readMember 13 = .ok (.aload_n 0, 1) := by decide +kernel
theorem d_Re_readMember_14 : decode b_Re_readMember 14 = .ok (.invokevirtual 82, 3) := by decide +kernel
theorem d_Re_readMember_17 : decode b_Re_readMember 17 = .ok (.goto 7, 3) := by decide +kernel
theorem d_Re_readMember_20 : decode b_Re_readMember 20 = .ok (.aload_n 0, 1) := by decide +kernel
theorem d_Re_readMember_21 : decode b_Re_readMember 21 = .ok (.invokevirtual 52, 3) := by decide +kernel
theorem d_Re_readMember_24 : decode b_Re_readMember 24 = .ok (.astore_n 3, 1) := by decide +kernel
theorem d_Re_readMember_25 : decode b_Re_readMember 25 = .ok (.aload_n 3, 1) := by decide +kernel
theorem d_Re_readMember_26 : decode b_Re_readMember 26 = .ok (.ifnonnull 5, 3) := by decide +kernel
theorem d_Re_readMember_29 : decode b_Re_readMember 29 = .ok (.iconst 0, 1) := by decide +kernel
theorem d_Re_readMember_30 : decode b_Re_readMember 30 = .ok (.ireturn, 1) := by decide +kernel
theorem d_Re_readMember_31 : decode b_Re_readMember 31 = .ok (.aload_n 0, 1) := by decide +kernel
theorem d_Re_readMember_32 : decode b_Re_readMember 32 = .ok (.bipush 58, 2) := by decide +kernel
theorem d_Re_readMember_34 : decode b_Re_readMember 34 = .ok (.invokevirtual 95, 3) := by decide +kernel
theorem d_Re_readMember_37 : decode b_Re_readMember 37 = .ok (.ifCond .eq 11, 3) := by decide +kernel
theorem d_Re_readMember_40 : decode b_Re_readMember 40 = .ok (.aload_n 0, 1) := by decide +kernel
theorem d_Re_readMember_41 : decode b_Re_readMember 41 = .ok (.iload_n 2, 1) := by decide +kernel
theorem d_Re_readMember_42 : decode b_Re_readMember 42 = .ok (.invokevirtual 45, 3) := by decide +kernel
theorem d_Re_readMember_45 : decode b_Re_readMember 45 = .ok (.goto 7, 3) := by decide +kernel
theorem d_Re_readMember_48 : decode b_Re_readMember 48 = .ok (.aload_n 0, 1) := by decide +kernel
theorem d_Re_readMember_49 : decode b_Re_readMember 49 = .ok (.invokevirtual 52, 3) := by decide +kernel
theorem d_Re_readMember_52 : decode b_Re_readMember 52 = .ok (.astore 4, 2) := by decide +kernel
theorem d_Re_readMember_54 : decode b_Re_readMember 54 = .ok (.aload 4, 2) := by decide +kernel
theorem d_Re_readMember_56 : decode b_Re_readMember 56 = .ok (.ifnull 17, 3) := by decide +kernel
theorem d_Re_readMember_59 : decode b_Re_readMember 59 = .ok (.aload_n 1, 1) := by decide +kernel
theorem d_Re_readMember_60 : decode b_Re_readMember 60 = .ok (.aload_n 3, 1) := by decide +kernel
theorem d_Re_readMember_61 : decode b_Re_readMember 61 = .ok (.aload 4, 2) := by decide +kernel
theorem d_Re_readMember_63 : decode b_Re_readMember 63 = .ok (.invokevirtual 121, 3) := by decide +kernel
theorem d_Re_readMember_66 : decode b_Re_readMember 66 = .ok (.ifCond .eq 7, 3) := by decide +kernel
theorem d_Re_readMember_69 : decode b_Re_readMember 69 = .ok (.iconst 1, 1) := by decide +kernel
theorem d_Re_readMember_70 : decode b_Re_readMember 70 = .ok (.goto 4, 3) := by decide +kernel
theorem d_Re_readMember_73 : decode b_Re_readMember 73 = .ok (.iconst 0, 1) := by decide +kernel
theorem d_Re_readMember_74 : decode b_Re_readMember 74 = .ok (.ireturn, 1) := by decide +kernel
set_option maxHeartbeats 4000000 in
set_option maxRecDepth 100000 in
theorem c_Re_readMember (l : Launch) (E : gh_E) (ρ Z tx : Nat → Nat) (n d : Nat) (ihv : re_V l E ρ Z tx n d) (sz : Nat) (f : gh_F) (pl : Nat) (bd : Int32) (dp Q : Nat) (r0 : List (List Int32) × List vt) (O : Option (List Int32 × vt)) (hdp : dp + (d + 1) = 8) (hp : pl ≤ n) (hR : re_I tx n true d pl = (Q, O)) (hA : re_A E ρ Z tx n f pl bd) (hg : ga_R E (rP ρ) f (Z (100 + 3 * dp)) (Z (101 + 3 * dp)) (Z (102 + 3 * dp)) r0.1 r0.2) (h15 : r0.2.length < 16) (hkl : r0.1.length = r0.2.length) : gh_M l y_Re_readMember b_Re_readMember 5 (some .boolean) E sz [.ref (Z 8), .ref (Z (100 + 3 * dp)), .int (nI (dp + 1))] f { frames := 15 + 4 * d, cells := 4 * (Q - pl) + 4, slots := 60 * (Q - pl) + 60, locals := 340 + 120 * d } (fun r g => re_J E ρ Z tx n g bd dp true r0 Q O r ∧ gh_fr f g (re_M ρ dp)) := by
  refine gh_open (by decide) (Nat.le_of_ble_eq_true rfl) ?_
  intro p e s m args below meth c A ls hAe C V hr hlocks hname hl
  have hx := C.1
  have hb := C.2.1
  have hl : lv_has ls 5 [(0, .ref (Z 8)), (1, .ref (Z (100 + 3 * dp))), (2, .int (nI (dp + 1)))] := hl
  have h120 := hA.n
  have hch : ∀ j, j < n → 32 ≤ tx j ∧ tx j ≤ 126 := hA.2.1.2.2.2.2.2.2.2
  have hz := hA.2.1.1
  have hgi := re_gin hz (show dp < 8 by omega)
  have hg8 := re_M8 hz (show dp < 8 by omega)
  have hok := re_I_ok hch h120 (by omega) hp hR
  have hfr : gh_fr f f (re_M ρ dp) := gh_fr.rf
  unfold re_I at hR
  refine lv_aload_n hx hb d_Re_readMember_0 rfl (lv_at hl 0 rfl) ?_
  refine gh_callV C V hl.1 m_Re_skipBlanks l_Re_49 (c_Re_skipBlanks l E _ _ ρ Z tx n pl bd hA (by omega)) rfl hA.1 gc_Re ⟨by first | decide | omega | (dsimp only; omega), by first | decide | omega | (dsimp only; omega)⟩ ⟨by first | decide | omega | (dsimp only; omega), by first | decide | omega | (dsimp only; omega)⟩ (Nat.le_of_ble_eq_true rfl) rfl d_Re_readMember_1 (fun r fb1 H locs hp9 V1 => ?_)
  obtain ⟨rfl, hA2, hfr2⟩ := hp9
  have V := V1
  refine W.eq (g2 := F0 m 4 ls []) rfl ?_
  have hA := hA2
  have hfr := re_tr hfr hfr2 (by omega)
  have hbl2 := rbl_le (tx := tx) (n := n) (p := pl) (by omega)
  have hbg2 := rbl_ge (tx := tx) (n := n) (p := pl)
  have hg := hg.keep hfr2 re_M.P hg8.1 hg8.2.1 hg8.2.2
  refine lv_aload_n hx hb d_Re_readMember_4 rfl (lv_at hl 0 rfl) ?_
  refine gh_callV C V hl.1 m_Re_sign l_Re_56 (c_Re_sign l E _ _ ρ Z tx n (rbl tx n pl) bd hA (by omega)) rfl hA.1 gc_Re ⟨by first | decide | omega | (dsimp only; omega), by first | decide | omega | (dsimp only; omega)⟩ ⟨by first | decide | omega | (dsimp only; omega), by first | decide | omega | (dsimp only; omega)⟩ (Nat.le_of_ble_eq_true rfl) rfl d_Re_readMember_5 (fun r g3_ H locs hp9 V1 => ?_)
  obtain ⟨rfl, he9⟩ := hp9
  rw [he9] at V1
  have V := V1
  refine W.eq (g2 := F0 m 8 ls [.int (nI (sg tx n (rbl tx n pl)))]) rfl ?_
  rw [if_pos rfl, rd_K_q] at hR
  have hc1 := (hA.ch (rbl tx n pl)).1
  by_cases hq34 : sg tx n (rbl tx n pl) = 34
  · have hbn := sg_lt (by omega : sg tx n (rbl tx n pl) ≠ 0)
    refine lv_bipush (v := 34) hx hb d_Re_readMember_8 (by decide) ?_
    refine lv_icmp_ne (tgt := 20) hx hb d_Re_readMember_10 (by decide) (fun c1 => absurd (by rw [hq34]; rfl) c1) (fun c1 => ?_)
    refine lv_aload_n hx hb d_Re_readMember_13 rfl (lv_at hl 0 rfl) ?_
    rw [show rd_q tx n (rbl tx n pl) = rd_s tx n n (rbl tx n pl + 1) [] from if_pos hq34] at hR
    cases hs : rd_s tx n n (rbl tx n pl + 1) [] with
    | mk q8 o8 =>
      rw [hs] at hR
      have hs2 := rd_s_ok (L := []) hch (by omega) ⟨Nat.zero_le _, fun j hj => absurd hj (Nat.not_lt_zero j)⟩ hs
      refine gh_callV C V hl.1 m_Re_readString l_Re_82 (c_Re_readString l E _ _ ρ Z tx n (rbl tx n pl) bd hA hbn) rfl hA.1 gc_Re ⟨by first | decide | omega | (dsimp only; omega), by first | decide | omega | (dsimp only; omega)⟩ ⟨by first | decide | omega | (dsimp only; omega), by first | decide | omega | (dsimp only; omega)⟩ (Nat.le_of_ble_eq_true rfl) rfl d_Re_readMember_14 (fun r gt H locs hp9 V1 => ?_)
      obtain ⟨hr9, hfr2⟩ := hp9
      rw [hs] at hr9
      have V := V1
      have hg := hg.keep hfr2 re_M.P hg8.1 hg8.2.1 hg8.2.2
      have hfr := re_tr hfr hfr2 (by omega)
      cases o8 with
      | none =>
        have hR : (q8, (none : Option (List Int32 × vt))) = (Q, O) := hR
        obtain ⟨hQ, hO⟩ := Prod.mk.inj hR
        rw [← hO]
        obtain ⟨rfl, hA⟩ := hr9
        refine W.eq (g2 := F0 m 17 ls [.null]) rfl ?_
        refine lv_goto (tgt := 24) hx hb d_Re_readMember_17 (by decide) ?_
        refine lv_astore_nN hx hb d_Re_readMember_24 rfl hl (by decide) rfl (fun ls hl => ?_)
        have hl : lv_has ls 5 [(3, .null), (0, .ref (Z 8)), (1, .ref (Z (100 + 3 * dp))), (2, .int (nI (dp + 1)))] := hl
        refine lv_aload_nN hx hb d_Re_readMember_25 rfl (lv_at hl 0 rfl) ?_
        refine lv_ifnonnullN hx hb d_Re_readMember_26 ?_
        refine lv_iconst (v := 0) hx hb d_Re_readMember_29 (by decide) ?_
        refine gh_retz hAe C V hr (by first | rfl | exact gh_bi_nar _ | decide) hlocks d_Re_readMember_30 (by first | decide | omega | (dsimp only; omega)) (by first | decide | omega | (dsimp only; omega)) ?_
        exact ⟨⟨rfl, by rw [← hQ]; exact hA⟩, hfr⟩
      | some L9 =>
        obtain ⟨⟨kv9, rfl, hk9⟩, hA⟩ := hr9
        refine W.eq (g2 := F0 m 17 ls [.ref kv9]) rfl ?_
        have hLok := (hs2.2.2 L9 rfl).2
        refine lv_goto (tgt := 24) hx hb d_Re_readMember_17 (by decide) ?_
        refine lv_astore_n hx hb d_Re_readMember_24 rfl hl (by decide) rfl (fun ls hl => ?_)
        have hl : lv_has ls 5 [(3, .ref kv9), (0, .ref (Z 8)), (1, .ref (Z (100 + 3 * dp))), (2, .int (nI (dp + 1)))] := hl
        refine lv_aload_n hx hb d_Re_readMember_25 rfl (lv_at hl 0 rfl) ?_
        refine lv_ifnonnull (tgt := 31) hx hb d_Re_readMember_26 (by decide) ?_
        refine lv_aload_n hx hb d_Re_readMember_31 rfl (lv_at hl 1 rfl) ?_
        refine lv_bipush (v := 58) hx hb d_Re_readMember_32 (by decide) ?_
        refine W.eq (g2 := F0 m 34 ls [.int (nI 58), .ref (Z 8)]) rfl ?_
        refine gh_callV C V hl.1 m_Re_passes l_Re_95 (c_Re_passes l E _ _ ρ Z tx n q8 bd 58 hA (by omega) (by decide) (by decide)) rfl hA.1 gc_Re ⟨by first | decide | omega | (dsimp only; omega), by first | decide | omega | (dsimp only; omega)⟩ ⟨by first | decide | omega | (dsimp only; omega), by first | decide | omega | (dsimp only; omega)⟩ (Nat.le_of_ble_eq_true rfl) rfl d_Re_readMember_34 (fun r gp H locs hp9 V1 => ?_)
        obtain ⟨rfl, hA, hfr2⟩ := hp9
        have V := V1
        have hg := hg.keep hfr2 re_M.P hg8.1 hg8.2.1 hg8.2.2
        have hk9 := hk9.keep hfr2 re_M.P
        have hfr := re_tr hfr hfr2 (by omega)
        have hbl8 := rbl_le (tx := tx) (n := n) (p := q8) (by omega)
        have hbg8 := rbl_ge (tx := tx) (n := n) (p := q8)
        dsimp only at hR
        by_cases h58 : sg tx n (rbl tx n q8) = 58
        · have hbn8 := sg_lt (by omega : sg tx n (rbl tx n q8) ≠ 0)
          rw [if_pos h58] at hA hR
          rw [decide_eq_true h58]
          refine W.eq (g2 := F0 m 37 ls [.int 1]) rfl ?_
          have hR : (match rd_v tx n false d (rbl tx n q8 + 1) with | (q2, none) => (q2, none) | (q2, some X) => (q2, some (L9, X))) = (Q, O) := hR
          refine lv_if_eq (tgt := 48) hx hb d_Re_readMember_37 (by decide) (fun c2 => absurd c2 (by decide)) (fun c2 => ?_)
          refine lv_aload_n hx hb d_Re_readMember_40 rfl (lv_at hl 1 rfl) ?_
          refine lv_iload_n hx hb d_Re_readMember_41 rfl (lv_at hl 3 rfl) ?_
          cases hv : rd_v tx n false d (rbl tx n q8 + 1) with
          | mk q9 o9 =>
            rw [hv] at hR
            have hv2 := rd_v_ok hch h120 (by omega) (by omega) hv
            have hge9 := rbl_ge (tx := tx) (n := n) (p := rbl tx n q8 + 1)
            have hq9 : q9 = Q := by cases o9 <;> cases hR <;> rfl
            rw [hq9] at hv hv2
            refine gh_callV C V hl.1 m_Re_readValue l_Re_45 (ihv _ _ (rbl tx n q8 + 1) bd (dp + 1) Q o9 (by omega) (by omega) hv hA) rfl hA.1 gc_Re ⟨by first | decide | omega | (dsimp only; omega), by first | decide | omega | (dsimp only; omega)⟩ ⟨by first | decide | omega | (dsimp only; omega), by first | decide | omega | (dsimp only; omega)⟩ (Nat.le_of_ble_eq_true rfl) rfl d_Re_readMember_42 (fun r gv H locs hp9 V1 => ?_)
            obtain ⟨hr9, hfr2⟩ := hp9
            have V := V1
            have hg := hg.keep hfr2 re_M.P hgi.1 hgi.2.1 hgi.2.2
            have hfr := re_tr hfr hfr2 (by omega)
            have hk9 := hk9.keep hfr2 re_M.P
            cases o9 with
            | none =>
              obtain ⟨rfl, hA⟩ := hr9
              refine W.eq (g2 := F0 m 45 ls [.null]) rfl ?_
              have hO : O = none := by cases hR; rfl
              rw [hO]
              refine lv_goto (tgt := 52) hx hb d_Re_readMember_45 (by decide) ?_
              refine lv_astoreN hx hb d_Re_readMember_52 hl (by decide) rfl (fun ls hl => ?_)
              have hl : lv_has ls 5 [(4, .null), (3, .ref kv9), (0, .ref (Z 8)), (1, .ref (Z (100 + 3 * dp))), (2, .int (nI (dp + 1)))] := hl
              refine lv_aloadN hx hb d_Re_readMember_54 (lv_at hl 0 rfl) ?_
              refine lv_ifnullN (tgt := 73) hx hb d_Re_readMember_56 (by decide) ?_
              refine lv_iconst (v := 0) hx hb d_Re_readMember_73 (by decide) ?_
              refine gh_retz hAe C V hr (by first | rfl | exact gh_bi_nar _ | decide) hlocks d_Re_readMember_74 (by first | decide | omega | (dsimp only; omega)) (by first | decide | omega | (dsimp only; omega)) ?_
              exact ⟨⟨rfl, hA⟩, hfr⟩
            | some X9 =>
              obtain ⟨⟨v9, rfl, hv9⟩, hA⟩ := hr9
              refine W.eq (g2 := F0 m 45 ls [.ref v9]) rfl ?_
              have hO : O = some (L9, X9) := by cases hR; rfl
              rw [hO]
              refine lv_goto (tgt := 52) hx hb d_Re_readMember_45 (by decide) ?_
              refine lv_astore hx hb d_Re_readMember_52 hl (by decide) rfl (fun ls hl => ?_)
              have hl : lv_has ls 5 [(4, .ref v9), (3, .ref kv9), (0, .ref (Z 8)), (1, .ref (Z (100 + 3 * dp))), (2, .int (nI (dp + 1)))] := hl
              refine lv_aload hx hb d_Re_readMember_54 (lv_at hl 0 rfl) ?_
              refine lv_ifnull hx hb d_Re_readMember_56 ?_
              refine lv_aload_n hx hb d_Re_readMember_59 rfl (lv_at hl 3 rfl) ?_
              refine lv_aload_n hx hb d_Re_readMember_60 rfl (lv_at hl 1 rfl) ?_
              refine lv_aload hx hb d_Re_readMember_61 (lv_at hl 0 rfl) ?_
              obtain ⟨hga1, hga2⟩ := id hg
              obtain ⟨-, gk9, gi9, K9, B9, hga, -⟩ := hga2
              refine gh_callV C V hl.1 m_Ga_put l_Re_121 (c_Ga_put l E _ _ (rP ρ) _ _ _ _ _ kv9 v9 L9 X9 hg hkl hk9 hLok hv9) rfl hga gc_Ga ⟨by first | decide | omega | (dsimp only; omega), by first | decide | omega | (dsimp only; omega)⟩ ⟨by first | decide | omega | (dsimp only; omega), by first | decide | omega | (dsimp only; omega)⟩ (Nat.le_of_ble_eq_true rfl) rfl d_Re_readMember_63 (fun r ga H locs hp9 V1 => ?_)
              have hpl := (vt_pu_len (s := (r0.1, r0.2)) (L := L9) (X := X9)).2
              have hpl : (vt_pu (r0.1, r0.2) L9 X9).2.length ≤ r0.2.length + 1 := hpl
              rw [vt_put_pu (show ((r0.1, r0.2) : List (List Int32) × List vt).2.length ≤ 16 from by show r0.2.length ≤ 16; omega), if_pos (by omega)] at hp9
              obtain ⟨rfl, hg2, hfr3⟩ := hp9
              have V := V1
              refine W.eq (g2 := F0 m 66 ls [.int 1]) rfl ?_
              have hA3 := hA.ga (show dp < 8 by omega) hfr3 hg2.raw
              refine lv_if_eq (tgt := 73) hx hb d_Re_readMember_66 (by decide) (fun c3 => absurd c3 (by decide)) (fun c3 => ?_)
              refine lv_iconst (v := 1) hx hb d_Re_readMember_69 (by decide) ?_
              refine lv_goto (tgt := 74) hx hb d_Re_readMember_70 (by decide) ?_
              refine gh_retz hAe C V hr (by first | rfl | exact gh_bi_nar _ | decide) hlocks d_Re_readMember_74 (by first | decide | omega | (dsimp only; omega)) (by first | decide | omega | (dsimp only; omega)) ?_
              exact ⟨⟨rfl, hA3.1, hg2⟩, hfr.tr hA3.2 (fun _ _ _ z => z)⟩
        · rw [if_neg h58] at hA hR
          rw [decide_eq_false h58]
          refine W.eq (g2 := F0 m 37 ls [.int 0]) rfl ?_
          have hR : (rbl tx n q8, (none : Option (List Int32 × vt))) = (Q, O) := hR
          obtain ⟨hQ, hO⟩ := Prod.mk.inj hR
          rw [← hO]
          refine lv_if_eq (tgt := 48) hx hb d_Re_readMember_37 (by decide) (fun c4 => ?_) (fun c4 => absurd (by decide) c4)
          refine lv_aload_n hx hb d_Re_readMember_48 rfl (lv_at hl 1 rfl) ?_
          refine gh_callV C V hl.1 m_Re_refused l_Re_52 (c_Re_refused l E _ _ ρ Z tx n (rbl tx n q8) bd hA) rfl hA.1 gc_Re ⟨by first | decide | omega | (dsimp only; omega), by first | decide | omega | (dsimp only; omega)⟩ ⟨by first | decide | omega | (dsimp only; omega), by first | decide | omega | (dsimp only; omega)⟩ (Nat.le_of_ble_eq_true rfl) rfl d_Re_readMember_49 (fun r fz4 H locs hp9 V1 => ?_)
          obtain ⟨rfl, hA2, hfr2⟩ := hp9
          have V := V1
          refine W.eq (g2 := F0 m 52 ls [.null]) rfl ?_
          have hA := hA2
          have hfr := re_tr hfr hfr2 (by omega)
          refine lv_astoreN hx hb d_Re_readMember_52 hl (by decide) rfl (fun ls hl => ?_)
          have hl : lv_has ls 5 [(4, .null), (3, .ref kv9), (0, .ref (Z 8)), (1, .ref (Z (100 + 3 * dp))), (2, .int (nI (dp + 1)))] := hl
          refine lv_aloadN hx hb d_Re_readMember_54 (lv_at hl 0 rfl) ?_
          refine lv_ifnullN (tgt := 73) hx hb d_Re_readMember_56 (by decide) ?_
          refine lv_iconst (v := 0) hx hb d_Re_readMember_73 (by decide) ?_
          refine gh_retz hAe C V hr (by first | rfl | exact gh_bi_nar _ | decide) hlocks d_Re_readMember_74 (by first | decide | omega | (dsimp only; omega)) (by first | decide | omega | (dsimp only; omega)) ?_
          exact ⟨⟨rfl, by rw [← hQ]; exact hA⟩, hfr⟩
  · rw [show rd_q tx n (rbl tx n pl) = (rbl tx n pl, none) from if_neg hq34] at hR
    have hR : (rbl tx n pl, (none : Option (List Int32 × vt))) = (Q, O) := hR
    obtain ⟨hQ, hO⟩ := Prod.mk.inj hR
    rw [← hO]
    refine lv_bipush (v := 34) hx hb d_Re_readMember_8 (by decide) ?_
    refine lv_icmp_ne (tgt := 20) hx hb d_Re_readMember_10 (by decide) (fun c5 => ?_) (fun c5 => absurd c5 (fun z => hq34 ((nI_eq (b := 34) (by omega) (by decide)).mp z)))
    refine lv_aload_n hx hb d_Re_readMember_20 rfl (lv_at hl 0 rfl) ?_
    refine gh_callV C V hl.1 m_Re_refused l_Re_52 (c_Re_refused l E _ _ ρ Z tx n (rbl tx n pl) bd hA) rfl hA.1 gc_Re ⟨by first | decide | omega | (dsimp only; omega), by first | decide | omega | (dsimp only; omega)⟩ ⟨by first | decide | omega | (dsimp only; omega), by first | decide | omega | (dsimp only; omega)⟩ (Nat.le_of_ble_eq_true rfl) rfl d_Re_readMember_21 (fun r fz5 H locs hp9 V1 => ?_)
    obtain ⟨rfl, hA2, hfr2⟩ := hp9
    have V := V1
    refine W.eq (g2 := F0 m 24 ls [.null]) rfl ?_
    have hA := hA2
    have hfr := re_tr hfr hfr2 (by omega)
    refine lv_astore_nN hx hb d_Re_readMember_24 rfl hl (by decide) rfl (fun ls hl => ?_)
    have hl : lv_has ls 5 [(3, .null), (0, .ref (Z 8)), (1, .ref (Z (100 + 3 * dp))), (2, .int (nI (dp + 1)))] := hl
    refine lv_aload_nN hx hb d_Re_readMember_25 rfl (lv_at hl 0 rfl) ?_
    refine lv_ifnonnullN hx hb d_Re_readMember_26 ?_
    refine lv_iconst (v := 0) hx hb d_Re_readMember_29 (by decide) ?_
    refine gh_retz hAe C V hr (by first | rfl | exact gh_bi_nar _ | decide) hlocks d_Re_readMember_30 (by first | decide | omega | (dsimp only; omega)) (by first | decide | omega | (dsimp only; omega)) ?_
    exact ⟨⟨rfl, by rw [← hQ]; exact hA⟩, hfr⟩
