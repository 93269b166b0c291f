/-! close of the model. Printed by wip/whole/gen_mo39.py. -/
/-- what was entered at a level, gathered -/
def rfo (ob : Bool) (rs : List (List Int32 × vt)) : List (List Int32) × List vt := rs.foldl (fun r e => rd_ad ob r e.1 e.2) ([], [])
theorem rfo_ap {ob : Bool} {rs : List (List Int32 × vt)} {x : List Int32 × vt} : rfo ob (rs ++ [x]) = rd_ad ob (rfo ob rs) x.1 x.2 := by unfold rfo; rw [List.foldl_append]; rfl
theorem rfo_len0 {ob : Bool} : ∀ {rs : List (List Int32 × vt)} {r : List (List Int32) × List vt}, (rs.foldl (fun r e => rd_ad ob r e.1 e.2) r).2.length ≤ r.2.length + rs.length := by
  intro rs
  induction rs with
  | nil => intro r; exact Nat.le_refl _
  | cons x rs ih =>
    intro r
    have h1 := ih (r := rd_ad ob r x.1 x.2)
    have h2 := (rd_ad_w (ob := ob) (r := r) (L := x.1) (X := x.2)).2
    show (rs.foldl (fun r e => rd_ad ob r e.1 e.2) (rd_ad ob r x.1 x.2)).2.length ≤ r.2.length + (rs.length + 1)
    omega
theorem rfo_len {ob : Bool} {rs : List (List Int32 × vt)} : (rfo ob rs).2.length ≤ rs.length := by have := rfo_len0 (ob := ob) (rs := rs) (r := ([], [])); exact Nat.le_trans this (by show 0 + _ ≤ _; omega)
theorem rfo_eq0 : ∀ {rs : List (List Int32 × vt)} {r : List (List Int32) × List vt}, r.1.length = r.2.length → (rs.foldl (fun r e => rd_ad true r e.1 e.2) r).1.length = (rs.foldl (fun r e => rd_ad true r e.1 e.2) r).2.length := by
  intro rs
  induction rs with
  | nil => intro r h; exact h
  | cons x rs ih => intro r h; exact ih (r := vt_pu r x.1 x.2) (vt_pu_eq h)
theorem rfo_eq {rs : List (List Int32 × vt)} : (rfo true rs).1.length = (rfo true rs).2.length := rfo_eq0 rfl
theorem rfo_l0 : ∀ {rs : List (List Int32 × vt)} {r : List (List Int32) × List vt}, (rs.foldl (fun r e => rd_ad false r e.1 e.2) r).1 = r.1 := by
  intro rs
  induction rs with
  | nil => intro r; rfl
  | cons x rs ih => intro r; exact (ih (r := (r.1, r.2 ++ [x.2]))).trans rfl
theorem rfo_l {rs : List (List Int32 × vt)} : (rfo false rs).1 = [] := rfo_l0
theorem rs_take {rs : List (List Int32 × vt)} {n : Nat} (h : n < rs.length) : rs.take (n + 1) = rs.take n ++ [rs.getD n ([], vt_0 0)] := by
  induction rs generalizing n with
  | nil => exact absurd h (Nat.not_lt_zero n)
  | cons y r ih =>
    cases n with
    | zero => rfl
    | succ n =>
      have := ih (n := n) (by simpa using h)
      show y :: r.take (n + 1) = y :: (r.take n ++ [r.getD n ([], vt_0 0)])
      rw [this]
theorem rfo_tk {ob : Bool} {rs : List (List Int32 × vt)} {n : Nat} (h : n < rs.length) : rfo ob (rs.take (n + 1)) = rd_ad ob (rfo ob (rs.take n)) (rs.getD n ([], vt_0 0)).1 (rs.getD n ([], vt_0 0)).2 := by rw [rs_take h, rfo_ap]
/-- what was entered at level dp, in the model -/
def rN (ob : Bool) (dp nv np : Nat) (I : mo_I) (J : mo_J) (rs : List (List Int32 × vt)) : Prop := ∀ j, j < rs.length → ∃ v y, I 22 (16 * dp + j) = nI v ∧ mw I J 29 nv 0 np v (rs.getD j ([], vt_0 0)).2 ∧ (ob = true → I 23 (16 * dp + j) = nI y ∧ mv_S I J 29 nv y (rs.getD j ([], vt_0 0)).1 ∧ lt_ok (rs.getD j ([], vt_0 0)).1)
/-- what close leaves -/
def rCO (bd : Bool) (S : Nat → Int32) (I : mo_I) (J : mo_J) (nv np : Nat) (X : vt) (c : Nat) (S2 : Nat → Int32) (I2 : mo_I) (J2 : mo_J) : Prop := ∃ nv2 np2, nv2 ≤ nv + 1 ∧ np2 ≤ np + 2 * c ∧ rE bd 8 S I J nv np S2 I2 J2 nv2 np2 ∧ (bd = true → ∃ u, S2 28 = nI u ∧ mw I2 J2 29 nv2 0 np2 u X)
theorem cl_E {ob : Bool} {pl nv np : Nat} {S S1 S2 : Nat → Int32} {I I1 I2 : mo_I} {J J2 : mo_J} {rs : List (List Int32 × vt)} (hg0 : mg_o (va_up (va_up S 21 (nI (pl + 1))) 16 0) I S1 I1) (hg : mg S1 I1 J 29 nv 0 np (rfo ob rs).1 (rfo ob rs).2) (hs : sl_o S1 I1 J 29 nv 0 np (if ob = true then 6 else 5) (rfo ob rs).2 S2 I2 J2) (hf : mfar I1 J I2 J2 (nv + 1)) (hq : ∀ q, np + 2 * (rfo ob rs).2.length ≤ q → I2 10 q = I1 10 q) (hnv : nv < 260) (h29 : 29 ≤ nv) (hlen : rs.length ≤ 16) (hp8 : np + 2 * rs.length ≤ 300) (hw : vt_wsum (rfo ob rs).2 ≤ 100) (hh : vt_hmax (rfo ob rs).2 ≤ 7) : rCO true S I J nv np (vt_m (if ob = true then 6 else 5) (if ob = true then (rfo ob rs).1 else []) (rfo ob rs).2) rs.length (va_up S2 28 (nI nv)) I2 J2 := by
  have hl := rfo_len (ob := ob) (rs := rs)
  have hk : (if ob = true then 6 else 5) = 5 ∧ (if ob = true then (rfo ob rs).1 else []) = [] ∨ (if ob = true then 6 else 5) = 6 ∧ (if ob = true then (rfo ob rs).1 else []) = (rfo ob rs).1 ∧ (rfo ob rs).1.length = (rfo ob rs).2.length := by
    cases ob with
    | false => exact Or.inl ⟨rfl, rfl⟩
    | true => exact Or.inr ⟨rfl, rfl, rfo_eq⟩
  have hn2 := sl_np (ky := if ob = true then 6 else 5) (n := (rfo ob rs).2.length)
  refine ⟨nv + 1, np + (if (if ob = true then 6 else 5) = 6 then 2 else 1) * (rfo ob rs).2.length, Nat.le_refl _, by omega, ⟨fun k x1 x2 x3 x4 => ?_, fun k x1 x2 => ?_, fun z => (by cases z), ⟨fun j hj => ⟨?_, ?_⟩, fun j hj => ⟨?_, ?_⟩⟩, fun _ => ⟨?_, ?_, ?_, ?_, ?_, ?_⟩, Nat.le_succ _, Nat.le_add_right _ _⟩, fun _ => ⟨nv, va_up_s, mw_seal hg hs.1 hs.2.2.2.2.2 hk h29 (by omega) (Nat.zero_le _) rfl (by omega) (by omega) hw hh⟩⟩
  · rw [va_up_n x3, hs.2.2.2.1 k (x4 rfl).1 (x4 rfl).2, hg0.2 k x1, va_up_n x1, va_up_n x2]
  · have y := x2 rfl
    funext j
    rw [hs.2.2.2.2.1 k j y.2.2.2.2.2.1 ⟨y.1, y.2.1, y.2.2.1, y.2.2.2.1, y.2.2.2.2.1⟩, hg0.1 k y.2.2.2.2.2.2.1 y.2.2.2.2.2.2.2]
  · rw [hs.2.2.2.2.1 22 j (by decide) (by decide), hg0.1 22 (by decide) (by decide)]
  · rw [hs.2.2.2.2.1 23 j (by decide) (by decide), hg0.1 23 (by decide) (by decide)]
  · rw [hs.2.2.2.2.1 24 j (by decide) (by decide), hg0.1 24 (by decide) (by decide)]
  · rw [hs.2.2.2.2.1 26 j (by decide) (by decide), hg0.1 26 (by decide) (by decide)]
  · exact (hg0.ma (b0 := 29) (pb := 0)).tr hs.1 (Nat.le_refl _) (Nat.le_refl _)
  · intro k v hk hv
    rw [(hf k v (by omega) (by omega)).1, hg0.1 k (by omega) (by omega)]
  · intro k v hk hv
    exact (hf k v (by omega) (by omega)).2
  · intro q hq2
    rw [hq q (by omega), hg0.1 10 (by decide) (by decide)]
  · intro _; rw [va_up_n (by decide)]; exact hs.2.1
  · intro _; rw [va_up_n (by decide)]; exact hs.2.2.1

theorem d_Mo_close_0 : decode b_Mo_close 0 = .ok (.aload_n 0, 1) := by decide +kernel
theorem d_Mo_close_1 : decode b_Mo_close 1 = .ok (.dup, 1) := by decide +kernel
theorem d_Mo_close_2 : decode b_Mo_close 2 = .ok (.getfield 179, 3) := by decide +kernel
theorem d_Mo_close_5 : decode b_Mo_close 5 = .ok (.iconst 1, 1) := by decide +kernel
theorem d_Mo_close_6 : decode b_Mo_close 6 = .ok (.iadd, 1) := by decide +kernel
theorem d_Mo_close_7 : decode b_Mo_close 7 = .ok (.putfield 179, 3) := by decide +kernel
theorem d_Mo_close_10 : decode b_Mo_close 10 = .ok (.aload_n 0, 1) := by decide +kernel
theorem d_Mo_close_11 : decode b_Mo_close 11 = .ok (.iconst 0, 1) := by decide +kernel
theorem d_Mo_close_12 : decode b_Mo_close 12 = .ok (.putfield 156, 3) := by decide +kernel
theorem d_Mo_close_15 : decode b_Mo_close 15 = .ok (.aload_n 0, 1) := by decide +kernel
theorem d_Mo_close_16 : decode b_Mo_close 16 = .ok (.getfield 206, 3) := by decide +kernel
theorem d_Mo_close_19 : decode b_Mo_close 19 = .ok (.ifCond .ne 4, 3) := by decide +kernel
theorem d_Mo_close_22 : decode b_Mo_close 22 = .ok (.return_, 1) := by decide +kernel
theorem d_Mo_close_23 : decode b_Mo_close 23 = .ok (.iconst 0, 1) := by decide +kernel
theorem d_Mo_close_24 : decode b_Mo_close 24 = .ok (.istore_n 2, 1) := by decide +kernel
theorem d_Mo_close_25 : decode b_Mo_close 25 = .ok (.iload_n 2, 1) := by decide +kernel
theorem d_Mo_close_26 : decode b_Mo_close 26 = .ok (.aload_n 0, 1) := by decide +kernel
theorem d_Mo_close_27 : decode b_Mo_close 27 = .ok (.getfield 63, 3) := by decide +kernel
theorem d_Mo_close_30 : decode b_Mo_close 30 = .ok (.iload_n 1, 1) := by decide +kernel
theorem d_Mo_close_31 : decode b_Mo_close 31 = .ok (.iaload, 1) := by decide +kernel
theorem d_Mo_close_32 : decode b_Mo_close 32 = .ok (.if_icmp .ge 77, 3) := by decide +kernel
theorem d_Mo_close_35 : decode b_Mo_close 35 = .ok (.aload_n 0, 1) := by decide +kernel
theorem d_Mo_close_36 : decode b_Mo_close 36 = .ok (.getfield 69, 3) := by decide +kernel
theorem d_Mo_close_39 : decode b_Mo_close 39 = .ok (.iload_n 1, 1) := by decide +kernel
theorem d_Mo_close_40 : decode b_Mo_close 40 = .ok (.baload, 1) := by decide +kernel
theorem d_Mo_close_41 : decode b_Mo_close 41 = .ok (.ifCond .eq 32, 3) := by decide +kernel
theorem d_Mo_close_44 : decode b_Mo_close 44 = .ok (.aload_n 0, 1) := by decide +kernel
theorem d_Mo_close_45 : decode b_Mo_close 45 = .ok (.aload_n 0, 1) := by decide +kernel
theorem d_Mo_close_46 : decode b_Mo_close 46 = .ok (.getfield 60, 3) := by decide +kernel
theorem d_Mo_close_49 : decode b_Mo_close 49 = .ok (.bipush 16, 2) := by decide +kernel
theorem d_Mo_close_51 : decode b_Mo_close 51 = .ok (.iload_n 1, 1) := by decide +kernel
theorem d_Mo_close_52 : decode b_Mo_close 52 = .ok (.imul, 1) := by decide +kernel
theorem d_Mo_close_53 : decode b_Mo_close 53 = .ok (.iload_n 2, 1) := by decide +kernel
theorem d_Mo_close_54 : decode b_Mo_close 54 = .ok (.iadd, 1) := by decide +kernel
theorem d_Mo_close_55 : decode b_Mo_close 55 = .ok (.iaload, 1) := by decide +kernel
theorem d_Mo_close_56 : decode b_Mo_close 56 = .ok (.aload_n 0, 1) := by decide +kernel
theorem d_Mo_close_57 : decode b_Mo_close 57 = .ok (.getfield 57, 3) := by decide +kernel
theorem d_Mo_close_60 : decode b_Mo_close 60 = .ok (.bipush 16, 2) := by decide +kernel
theorem d_Mo_close_62 : decode b_Mo_close 62 = .ok (.iload_n 1, 1) := by decide +kernel
theorem d_Mo_close_63 : decode b_Mo_close 63 = .ok (.imul, 1) := by decide +kernel
theorem d_Mo_close_64 : decode b_Mo_close 64 = .ok (.iload_n 2, 1) := by decide +kernel
theorem d_Mo_close_65 : decode b_Mo_close 65 = .ok (.iadd, 1) := by decide +kernel
theorem d_Mo_close_66 : decode b_Mo_close 66 = .ok (.iaload, 1) := by decide +kernel
theorem d_Mo_close_67 : decode b_Mo_close 67 = .ok (.invokevirtual 227, 3) := by decide +kernel
theorem d_Mo_close_70 : decode b_Mo_close 70 = .ok (.goto 33, 3) := by decide +kernel
theorem d_Mo_close_73 : decode b_Mo_close 73 = .ok (.aload_n 0, 1) := by decide +kernel
theorem d_Mo_close_74 : decode b_Mo_close 74 = .ok (.getfield 44, 3) := by decide +kernel
theorem d_Mo_close_77 : decode b_Mo_close 77 = .ok (.aload_n 0, 1) := by decide +kernel
theorem d_Mo_close_78 : decode b_Mo_close 78 = .ok (.getfield 156, 3) := by decide +kernel
theorem d_Mo_close_81 : decode b_Mo_close 81 = .ok (.aload_n 0, 1) := by decide +kernel
theorem d_Mo_close_82 : decode b_Mo_close 82 = .ok (.getfield 57, 3) := by decide +kernel
theorem d_Mo_close_85 : decode b_Mo_close 85 = .ok (.bipush 16, 2) := by decide +kernel
theorem d_Mo_close_87 : decode b_Mo_close 87 = .ok (.iload_n 1, 1) := by decide +kernel
theorem d_Mo_close_88 : decode b_Mo_close 88 = .ok (.imul, 1) := by decide +kernel
theorem d_Mo_close_89 : decode b_Mo_close 89 = .ok (.iload_n 2, 1) := by decide +kernel
theorem d_Mo_close_90 : decode b_Mo_close 90 = .ok (.iadd, 1) := by decide +kernel
theorem d_Mo_close_91 : decode b_Mo_close 91 = .ok (.iaload, 1) := by decide +kernel
theorem d_Mo_close_92 : decode b_Mo_close 92 = .ok (.iastore, 1) := by decide +kernel
theorem d_Mo_close_93 : decode b_Mo_close 93 = .ok (.aload_n 0, 1) := by decide +kernel
theorem d_Mo_close_94 : decode b_Mo_close 94 = .ok (.dup, 1) := by decide +kernel
theorem d_Mo_close_95 : decode b_Mo_close 95 = .ok (.getfield 156, 3) := by decide +kernel
theorem d_Mo_close_98 : decode b_Mo_close 98 = .ok (.iconst 1, 1) := by decide +kernel
theorem d_Mo_close_99 : decode b_Mo_close 99 = .ok (.iadd, 1) := by decide +kernel
theorem d_Mo_close_100 : decode b_Mo_close 100 = .ok (.putfield 156, 3) := by decide +kernel
theorem d_Mo_close_103 : decode b_Mo_close 103 = .ok (.iinc 2 1, 3) := by decide +kernel
theorem d_Mo_close_106 : decode b_Mo_close 106 = .ok (.goto (-81), 3) := by decide +kernel
theorem d_Mo_close_109 : decode b_Mo_close 109 = .ok (.aload_n 0, 1) := by decide +kernel
theorem d_Mo_close_110 : decode b_Mo_close 110 = .ok (.aload_n 0, 1) := by decide +kernel
theorem d_Mo_close_111 : decode b_Mo_close 111 = .ok (.aload_n 0, 1) := by decide +kernel
theorem d_Mo_close_112 : decode b_Mo_close 112 = .ok (.getfield 69, 3) := by decide +kernel
theorem d_Mo_close_115 : decode b_Mo_close 115 = .ok (.iload_n 1, 1) := by decide +kernel
theorem d_Mo_close_116 : decode b_Mo_close 116 = .ok (.baload, 1) := by decide +kernel
theorem d_Mo_close_117 : decode b_Mo_close 117 = .ok (.ifCond .eq 8, 3) := by decide +kernel
theorem d_Mo_close_120 : decode b_Mo_close 120 = .ok (.bipush 6, 2) := by decide +kernel
theorem d_Mo_close_122 : decode b_Mo_close 122 = .ok (.goto 4, 3) := by decide +kernel
theorem d_Mo_close_125 : decode b_Mo_close 125 = .ok (.iconst 5, 1) := by decide +kernel
theorem d_Mo_close_126 : decode b_Mo_close 126 = .ok (.invokevirtual 230, 3) := by decide +kernel
theorem d_Mo_close_129 : decode b_Mo_close 129 = .ok (.putfield 189, 3) := by decide +kernel
theorem d_Mo_close_132 : decode b_Mo_close 132 = .ok (.return_, 1) := by decide +kernel
set_option maxHeartbeats 4000000 in
set_option maxRecDepth 100000 in
theorem c_Mo_closeF (l : Launch) (E : gh_E) (sz : Nat) (f : gh_F) (a : Nat) (ad : Nat → Nat) (S : Nat → Int32) (I : Nat → Nat → Int32) (J : Nat → Nat → Int64) (pl dp : Nat) (hX : mo_R E f a ad S I J) (h21 : S 21 = nI pl) (h27 : S 27 = 0) : gh_M l y_Mo_close b_Mo_close 3 none E sz [.ref a, .int (nI dp)] f { frames := 8, cells := 0, slots := 0, locals := 240 } (fun r g => r = none ∧ mo_X E f g a ad (va_up (va_up S 21 (nI (pl + 1))) 16 0) I J) := by
  have hS21 := h21
  refine gh_open (by decide) (Nat.le_of_ble_eq_true rfl) ?_
  intro p e s m args below meth c A ls hAe C V hr hlocks hname hl
  have hx := C.1
  have hb := C.2.1
  have hl : lv_has ls 3 [(0, .ref a), (1, .int (nI dp))] := hl
  have X : mo_X E f f a ad S I J := ⟨hX, gh_fr.rf⟩
  refine lv_aload_n hx hb d_Mo_close_0 rfl (lv_at hl 0 rfl) ?_
  refine lv_dup hx hb d_Mo_close_1 rfl ?_
  refine mo_getS (v := nI pl) C V X 21 (by decide) (by decide) (by first | rfl | exact hS21) f_Mo_179 rfl d_Mo_close_2 ?_
  refine lv_iconst (v := 1) hx hb d_Mo_close_5 (by decide) ?_
  refine gn_iadd (a := pl) (b := 1) hx hb d_Mo_close_6 ?_
  refine mo_putS C V X 21 (by decide) (by decide) f_Mo_179 rfl rfl rfl d_Mo_close_7 (fun f1 H locs V1 X1 => ?_)
  clear V X
  have V := V1
  have X := X1
  clear V1 X1
  refine lv_aload_n hx hb d_Mo_close_10 rfl (lv_at hl 0 rfl) ?_
  refine lv_iconst (v := 0) hx hb d_Mo_close_11 (by decide) ?_
  refine mo_putS C V X 16 (by decide) (by decide) f_Mo_156 rfl rfl rfl d_Mo_close_12 (fun f1 H locs V1 X1 => ?_)
  clear V X
  have V := V1
  have X := X1
  clear V1 X1
  refine lv_aload_n hx hb d_Mo_close_15 rfl (lv_at hl 0 rfl) ?_
  refine mo_getS (v := S 27) C V X 27 (by decide) (by decide) (by first | rfl | exact hS27) f_Mo_206 rfl d_Mo_close_16 ?_
  refine lv_if_ne (tgt := 23) hx hb d_Mo_close_19 (by decide) (fun c1 => absurd h27 c1) (fun c1 => ?_)
  refine gh_retv hAe C V hr hlocks d_Mo_close_22 (by first | decide | omega | (dsimp only; omega)) (by first | decide | omega | (dsimp only; omega)) ?_
  exact ⟨rfl, X⟩
set_option maxHeartbeats 4000000 in
set_option maxRecDepth 100000 in
theorem c_Mo_close5 (l : Launch) (E : gh_E) (sz : Nat) (f : gh_F) (a : Nat) (ad : Nat → Nat) (S : Nat → Int32) (I : Nat → Nat → Int32) (J : Nat → Nat → Int64) (pl dp nv np : Nat) (rs : List (List Int32 × vt)) (hX : mo_R E f a ad S I J) (h21 : S 21 = nI pl) (h27 : S 27 = 1) (hdp : dp < 8) (h26 : I 26 dp = 0) (h24 : I 24 dp = nI rs.length) (hN : rN false dp nv np I J rs) (h11 : S 11 = nI nv) (h12 : S 12 = nI np) (hnv : nv < 260) (h29 : 29 ≤ nv) (hlen : rs.length ≤ 16) (hp8 : np + 2 * rs.length ≤ 300) (hw : vt_wsum (rfo false rs).2 ≤ 100) (hh : vt_hmax (rfo false rs).2 ≤ 7) : gh_M l y_Mo_close b_Mo_close 3 none E sz [.ref a, .int (nI dp)] f { frames := 8, cells := 0, slots := 0, locals := 240 } (fun r g => r = none ∧ ∃ S2 I2 J2, mo_X E f g a ad S2 I2 J2 ∧ S2 21 = nI (pl + 1) ∧ rCO true S I J nv np (vt_m 5 [] (rfo false rs).2) rs.length S2 I2 J2) := by
  have hS21 := h21
  refine gh_open (by decide) (Nat.le_of_ble_eq_true rfl) ?_
  intro p e s m args below meth c A ls hAe C V hr hlocks hname hl
  have hx := C.1
  have hb := C.2.1
  have hl : lv_has ls 3 [(0, .ref a), (1, .int (nI dp))] := hl
  have X : mo_X E f f a ad S I J := ⟨hX, gh_fr.rf⟩
  refine lv_aload_n hx hb d_Mo_close_0 rfl (lv_at hl 0 rfl) ?_
  refine lv_dup hx hb d_Mo_close_1 rfl ?_
  refine mo_getS (v := nI pl) C V X 21 (by decide) (by decide) (by first | rfl | exact hS21) f_Mo_179 rfl d_Mo_close_2 ?_
  refine lv_iconst (v := 1) hx hb d_Mo_close_5 (by decide) ?_
  refine gn_iadd (a := pl) (b := 1) hx hb d_Mo_close_6 ?_
  refine mo_putS C V X 21 (by decide) (by decide) f_Mo_179 rfl rfl rfl d_Mo_close_7 (fun f1 H locs V1 X1 => ?_)
  clear V X
  have V := V1
  have X := X1
  clear V1 X1
  refine lv_aload_n hx hb d_Mo_close_10 rfl (lv_at hl 0 rfl) ?_
  refine lv_iconst (v := 0) hx hb d_Mo_close_11 (by decide) ?_
  refine mo_putS C V X 16 (by decide) (by decide) f_Mo_156 rfl rfl rfl d_Mo_close_12 (fun f1 H locs V1 X1 => ?_)
  clear V X
  have V := V1
  have X := X1
  clear V1 X1
  refine lv_aload_n hx hb d_Mo_close_15 rfl (lv_at hl 0 rfl) ?_
  refine mo_getS (v := S 27) C V X 27 (by decide) (by decide) (by first | rfl | exact hS27) f_Mo_206 rfl d_Mo_close_16 ?_
  refine lv_if_ne (tgt := 23) hx hb d_Mo_close_19 (by decide) (fun c1 => ?_) (fun c1 => absurd c1 (fun z => absurd (h27.symm.trans z) (by decide)))
  refine lv_iconst (v := 0) hx hb d_Mo_close_23 (by decide) ?_
  refine lv_istore_n hx hb d_Mo_close_24 rfl hl (by decide) rfl (fun ls hl => ?_)
  have hl : lv_has ls 3 [(2, .int 0), (0, .ref a), (1, .int (nI dp))] := hl
  have hl : lv_has ls 3 [(2, .int 0), (0, .ref a), (1, .int (nI dp))] := lv_sub hl [0, 1, 2] rfl
  have hl : lv_has ls 3 [(2, .int (nI 0)), (0, .ref a), (1, .int (nI dp))] := hl
  have loop : ∀ (n9 i9 : Nat) (S1 : Nat → Int32) (I1 : mo_I) (f1 : gh_F) (H : Heap) (locs : List Loc) (ls : Array Slot), i9 + n9 = rs.length → (mg_o (va_up (va_up S 21 (nI (pl + 1))) 16 0) I S1 I1) → (mg S1 I1 J 29 nv 0 np (rfo false (rs.take i9)).1 (rfo false (rs.take i9)).2) → mo_X E f f1 a ad S1 I1 J → gh_V E A f1 s H locs → lv_has ls 3 [(2, .int (nI i9)), (0, .ref a), (1, .int (nI dp))] → W p l e { frames := 8, cells := 0, slots := 0, locals := 240 } s m args below meth c H locs 0 0 (MQ below (gh_Q E f (fun r g => r = none ∧ ∃ S2 I2 J2, mo_X E f g a ad S2 I2 J2 ∧ S2 21 = nI (pl + 1) ∧ rCO true S I J nv np (vt_m 5 [] (rfo false rs).2) rs.length S2 I2 J2)) args s 0 0 A) (F0 m 25 ls []) := by
    intro n9
    induction n9 with
    | zero =>
      intro i9 S1 I1 f1 H locs ls hi qo qg X V hl
      have q24 : I1 24 dp = nI rs.length := by rw [qo.1 24 (by decide) (by decide)]; exact h24
      have q26 : I1 26 dp = 0 := by rw [qo.1 26 (by decide) (by decide)]; exact h26
      refine lv_iload_n hx hb d_Mo_close_25 rfl (lv_at hl 0 rfl) ?_
      refine lv_aload_n hx hb d_Mo_close_26 rfl (lv_at hl 1 rfl) ?_
      refine mo_getA C V X 24 (by decide) (by decide) f_Mo_63 rfl d_Mo_close_27 ?_
      refine lv_iload_n hx hb d_Mo_close_30 rfl (lv_at hl 2 rfl) ?_
      refine mo_ild (k := 24) (i := dp) (n := 8) C V X (by decide) (by decide) rfl (by omega) (by decide) d_Mo_close_31 ?_
      rw [show I1 24 dp = nI rs.length from q24]
      refine lv_icmp_ge (tgt := 109) hx hb d_Mo_close_32 (by decide) (fun c2 => ?_) (fun c2 => absurd (nI_le (by omega) (by omega)) c2)
      refine lv_aload_n hx hb d_Mo_close_109 rfl (lv_at hl 1 rfl) ?_
      refine lv_aload_n hx hb d_Mo_close_110 rfl (lv_at hl 1 rfl) ?_
      refine lv_aload_n hx hb d_Mo_close_111 rfl (lv_at hl 1 rfl) ?_
      refine mo_getA C V X 26 (by decide) (by decide) f_Mo_69 rfl d_Mo_close_112 ?_
      refine lv_iload_n hx hb d_Mo_close_115 rfl (lv_at hl 2 rfl) ?_
      refine mo_zld (k := 26) (i := dp) (n := 8) C V X (by decide) (by decide) rfl (by omega) (by decide) d_Mo_close_116 ?_
      rw [show I1 26 dp = 0 from q26]
      refine lv_if_eq (tgt := 125) hx hb d_Mo_close_117 (by decide) (fun c3 => ?_) (fun c3 => absurd (by decide) c3)
      refine lv_iconst (v := 5) hx hb d_Mo_close_125 (by decide) ?_
      have hi9 : i9 = rs.length := by omega
      subst hi9
      rw [List.take_length] at qg
      have hln := rfo_len (ob := false) (rs := rs)
      have q11 : S1 11 = nI nv := by rw [qo.2 11 (by decide), va_up_n (by decide), va_up_n (by decide)]; exact h11
      have q12 : S1 12 = nI np := by rw [qo.2 12 (by decide), va_up_n (by decide), va_up_n (by decide)]; exact h12
      refine gh_callV C V hl.1 m_Mo_seal l_Mo_230 (c_Mo_seal2 l E _ _ a ad _ _ _ 29 nv 0 np 5 _ _ X.1 qg q11 q12 (by omega) h29 (by omega) (by omega) (by decide)) rfl X.1.1 gc_Mo ⟨by first | decide | omega | (dsimp only; omega), by first | decide | omega | (dsimp only; omega)⟩ ⟨by first | decide | omega | (dsimp only; omega), by first | decide | omega | (dsimp only; omega)⟩ (Nat.le_of_ble_eq_true rfl) rfl d_Mo_close_126 (fun r z9 H locs hp9 V1 => ?_)
      obtain ⟨rfl, S3, I3, J3, X2, hs1, hs2, hs3⟩ := hp9
      have X := X.then X2
      have V := V1
      refine W.eq (g2 := F0 m 129 ls [.int (nI nv), .ref a]) rfl ?_
      refine mo_putS C V X 28 (by decide) (by decide) f_Mo_189 rfl rfl rfl d_Mo_close_129 (fun f1 H locs V1 X1 => ?_)
      clear V X
      have V := V1
      have X := X1
      clear V1 X1
      refine gh_retv hAe C V hr hlocks d_Mo_close_132 (by first | decide | omega | (dsimp only; omega)) (by first | decide | omega | (dsimp only; omega)) ?_
      refine ⟨rfl, _, _, _, X, ?_, cl_E (ob := false) qo qg hs1 hs2 hs3 hnv h29 hlen hp8 hw hh⟩
      rw [va_up_n (by decide), hs1.2.2.2.1 21 (by decide) (by decide), qo.2 21 (by decide), va_up_n (by decide), va_up_s]
    | succ n9 ih =>
      intro i9 S1 I1 f1 H locs ls hi qo qg X V hl
      have q24 : I1 24 dp = nI rs.length := by rw [qo.1 24 (by decide) (by decide)]; exact h24
      have q26 : I1 26 dp = 0 := by rw [qo.1 26 (by decide) (by decide)]; exact h26
      obtain ⟨v9, y9, hv1, hv2, hv3⟩ := hN i9 (by omega)
      have q22 : I1 22 (16 * dp + i9) = nI v9 := by rw [qo.1 22 (by decide) (by decide)]; exact hv1
      have hln := rfo_len (ob := false) (rs := rs.take i9)
      have hln2 : (rs.take i9).length ≤ 16 := by rw [List.length_take]; omega
      have hv2 := hv2.keep (qo.ma (b0 := 29) (pb := 0) (J := J)) (Nat.le_refl _) (Nat.le_refl _) (by omega)
      have hS16 : S1 16 = nI (rfo false (rs.take i9)).2.length := (id (show ∃ B K : Nat → Nat, _ from qg)).elim (fun _ z => z.elim (fun _ z => z.1))
      refine lv_iload_n hx hb d_Mo_close_25 rfl (lv_at hl 0 rfl) ?_
      refine lv_aload_n hx hb d_Mo_close_26 rfl (lv_at hl 1 rfl) ?_
      refine mo_getA C V X 24 (by decide) (by decide) f_Mo_63 rfl d_Mo_close_27 ?_
      refine lv_iload_n hx hb d_Mo_close_30 rfl (lv_at hl 2 rfl) ?_
      refine mo_ild (k := 24) (i := dp) (n := 8) C V X (by decide) (by decide) rfl (by omega) (by decide) d_Mo_close_31 ?_
      rw [show I1 24 dp = nI rs.length from q24]
      refine lv_icmp_ge (tgt := 109) hx hb d_Mo_close_32 (by decide) (fun c4 => absurd c4 (nI_ge (by omega) (by omega))) (fun c4 => ?_)
      refine lv_aload_n hx hb d_Mo_close_35 rfl (lv_at hl 1 rfl) ?_
      refine mo_getA C V X 26 (by decide) (by decide) f_Mo_69 rfl d_Mo_close_36 ?_
      refine lv_iload_n hx hb d_Mo_close_39 rfl (lv_at hl 2 rfl) ?_
      refine mo_zld (k := 26) (i := dp) (n := 8) C V X (by decide) (by decide) rfl (by omega) (by decide) d_Mo_close_40 ?_
      rw [show I1 26 dp = 0 from q26]
      refine lv_if_eq (tgt := 73) hx hb d_Mo_close_41 (by decide) (fun c5 => ?_) (fun c5 => absurd (by decide) c5)
      refine lv_aload_n hx hb d_Mo_close_73 rfl (lv_at hl 1 rfl) ?_
      refine mo_getA C V X 14 (by decide) (by decide) f_Mo_44 rfl d_Mo_close_74 ?_
      refine lv_aload_n hx hb d_Mo_close_77 rfl (lv_at hl 1 rfl) ?_
      refine mo_getS (v := nI ((rfo false (rs.take i9)).2.length)) C V X 16 (by decide) (by decide) (by first | rfl | exact hS16) f_Mo_156 rfl d_Mo_close_78 ?_
      refine lv_aload_n hx hb d_Mo_close_81 rfl (lv_at hl 1 rfl) ?_
      refine mo_getA C V X 22 (by decide) (by decide) f_Mo_57 rfl d_Mo_close_82 ?_
      refine lv_bipush (v := 16) hx hb d_Mo_close_85 (by decide) ?_
      refine lv_iload_n hx hb d_Mo_close_87 rfl (lv_at hl 2 rfl) ?_
      refine gn_imul (a := 16) (b := dp) hx hb d_Mo_close_88 ?_
      refine lv_iload_n hx hb d_Mo_close_89 rfl (lv_at hl 0 rfl) ?_
      refine gn_iadd (a := 16 * dp) (b := i9) hx hb d_Mo_close_90 ?_
      refine mo_ild (k := 22) (i := (16 * dp) + i9) (n := 128) C V X (by decide) (by decide) rfl (by omega) (by decide) d_Mo_close_91 ?_
      rw [show I1 22 ((16 * dp) + i9) = nI v9 from q22]
      refine mo_ist (k := 14) (i := (rfo false (rs.take i9)).2.length) (n := 32) C V X (by decide) (by decide) rfl (by omega) (by decide) d_Mo_close_92 (fun f1 H locs V1 X1 => ?_)
      clear V X
      have V := V1
      have X := X1
      clear V1 X1
      refine lv_aload_n hx hb d_Mo_close_93 rfl (lv_at hl 1 rfl) ?_
      refine lv_dup hx hb d_Mo_close_94 rfl ?_
      refine mo_getS (v := nI ((rfo false (rs.take i9)).2.length)) C V X 16 (by decide) (by decide) (by first | rfl | exact hS16) f_Mo_156 rfl d_Mo_close_95 ?_
      refine lv_iconst (v := 1) hx hb d_Mo_close_98 (by decide) ?_
      refine gn_iadd (a := (rfo false (rs.take i9)).2.length) (b := 1) hx hb d_Mo_close_99 ?_
      refine mo_putS C V X 16 (by decide) (by decide) f_Mo_156 rfl rfl rfl d_Mo_close_100 (fun f1 H locs V1 X1 => ?_)
      clear V X
      have V := V1
      have X := X1
      clear V1 X1
      refine lv_iinc (k := 0) (v := (nI i9) + 1) hx hb d_Mo_close_103 hl rfl (by rfl) (by decide) rfl (fun ls hl => ?_)
      have hl : lv_has ls 3 [(2, .int (nI (i9 + 1))), (0, .ref a), (1, .int (nI dp))] := by rw [nI_succ]; exact hl
      refine lv_goto (tgt := 25) hx hb d_Mo_close_106 (by decide) ?_
      have hl : lv_has ls 3 [(2, .int (nI (i9 + 1))), (0, .ref a), (1, .int (nI dp))] := lv_sub hl [0, 1, 2] rfl
      have hl : lv_has ls 3 [(2, .int (nI (i9 + 1))), (0, .ref a), (1, .int (nI dp))] := hl
      have htk := rfo_tk (ob := false) (rs := rs) (n := i9) (by omega)
      refine ih (i9 + 1) _ _ _ H locs ls (by omega) (qo.tr ⟨fun k a1 _ => va_up_n a1, fun k a1 => va_up_n a1⟩) ?_ X V hl
      rw [htk]
      exact qg.add (by omega) hv2 (by omega)
  exact loop (rs.length) 0 _ _ _ _ _ ls (by omega) ⟨fun _ _ _ => rfl, fun _ _ => rfl⟩ ⟨fun _ => 0, fun _ => 0, va_up_s, Nat.zero_le _, Nat.le_refl _, fun j hj => absurd hj (Nat.not_lt_zero j), fun j hj => absurd hj (Nat.not_lt_zero j)⟩ X V hl
set_option maxHeartbeats 4000000 in
set_option maxRecDepth 100000 in
theorem c_Mo_close6 (l : Launch) (E : gh_E) (sz : Nat) (f : gh_F) (a : Nat) (ad : Nat → Nat) (S : Nat → Int32) (I : Nat → Nat → Int32) (J : Nat → Nat → Int64) (pl dp nv np : Nat) (rs : List (List Int32 × vt)) (hX : mo_R E f a ad S I J) (h21 : S 21 = nI pl) (h27 : S 27 = 1) (hdp : dp < 8) (h26 : I 26 dp = 1) (h24 : I 24 dp = nI rs.length) (hN : rN true dp nv np I J rs) (h11 : S 11 = nI nv) (h12 : S 12 = nI np) (hnv : nv < 260) (h29 : 29 ≤ nv) (hlen : rs.length ≤ 16) (hp8 : np + 2 * rs.length ≤ 300) (hw : vt_wsum (rfo true rs).2 ≤ 100) (hh : vt_hmax (rfo true rs).2 ≤ 7) : gh_M l y_Mo_close b_Mo_close 3 none E sz [.ref a, .int (nI dp)] f { frames := 8, cells := 0, slots := 0, locals := 240 } (fun r g => r = none ∧ ∃ S2 I2 J2, mo_X E f g a ad S2 I2 J2 ∧ S2 21 = nI (pl + 1) ∧ rCO true S I J nv np (vt_m 6 (rfo true rs).1 (rfo true rs).2) rs.length S2 I2 J2) := by
  have hS21 := h21
  refine gh_open (by decide) (Nat.le_of_ble_eq_true rfl) ?_
  intro p e s m args below meth c A ls hAe C V hr hlocks hname hl
  have hx := C.1
  have hb := C.2.1
  have hl : lv_has ls 3 [(0, .ref a), (1, .int (nI dp))] := hl
  have X : mo_X E f f a ad S I J := ⟨hX, gh_fr.rf⟩
  refine lv_aload_n hx hb d_Mo_close_0 rfl (lv_at hl 0 rfl) ?_
  refine lv_dup hx hb d_Mo_close_1 rfl ?_
  refine mo_getS (v := nI pl) C V X 21 (by decide) (by decide) (by first | rfl | exact hS21) f_Mo_179 rfl d_Mo_close_2 ?_
  refine lv_iconst (v := 1) hx hb d_Mo_close_5 (by decide) ?_
  refine gn_iadd (a := pl) (b := 1) hx hb d_Mo_close_6 ?_
  refine mo_putS C V X 21 (by decide) (by decide) f_Mo_179 rfl rfl rfl d_Mo_close_7 (fun f1 H locs V1 X1 => ?_)
  clear V X
  have V := V1
  have X := X1
  clear V1 X1
  refine lv_aload_n hx hb d_Mo_close_10 rfl (lv_at hl 0 rfl) ?_
  refine lv_iconst (v := 0) hx hb d_Mo_close_11 (by decide) ?_
  refine mo_putS C V X 16 (by decide) (by decide) f_Mo_156 rfl rfl rfl d_Mo_close_12 (fun f1 H locs V1 X1 => ?_)
  clear V X
  have V := V1
  have X := X1
  clear V1 X1
  refine lv_aload_n hx hb d_Mo_close_15 rfl (lv_at hl 0 rfl) ?_
  refine mo_getS (v := S 27) C V X 27 (by decide) (by decide) (by first | rfl | exact hS27) f_Mo_206 rfl d_Mo_close_16 ?_
  refine lv_if_ne (tgt := 23) hx hb d_Mo_close_19 (by decide) (fun c1 => ?_) (fun c1 => absurd c1 (fun z => absurd (h27.symm.trans z) (by decide)))
  refine lv_iconst (v := 0) hx hb d_Mo_close_23 (by decide) ?_
  refine lv_istore_n hx hb d_Mo_close_24 rfl hl (by decide) rfl (fun ls hl => ?_)
  have hl : lv_has ls 3 [(2, .int 0), (0, .ref a), (1, .int (nI dp))] := hl
  have hl : lv_has ls 3 [(2, .int 0), (0, .ref a), (1, .int (nI dp))] := lv_sub hl [0, 1, 2] rfl
  have hl : lv_has ls 3 [(2, .int (nI 0)), (0, .ref a), (1, .int (nI dp))] := hl
  have loop : ∀ (n9 i9 : Nat) (S1 : Nat → Int32) (I1 : mo_I) (f1 : gh_F) (H : Heap) (locs : List Loc) (ls : Array Slot), i9 + n9 = rs.length → (mg_o (va_up (va_up S 21 (nI (pl + 1))) 16 0) I S1 I1) → (mg S1 I1 J 29 nv 0 np (rfo true (rs.take i9)).1 (rfo true (rs.take i9)).2) → mo_X E f f1 a ad S1 I1 J → gh_V E A f1 s H locs → lv_has ls 3 [(2, .int (nI i9)), (0, .ref a), (1, .int (nI dp))] → W p l e { frames := 8, cells := 0, slots := 0, locals := 240 } s m args below meth c H locs 0 0 (MQ below (gh_Q E f (fun r g => r = none ∧ ∃ S2 I2 J2, mo_X E f g a ad S2 I2 J2 ∧ S2 21 = nI (pl + 1) ∧ rCO true S I J nv np (vt_m 6 (rfo true rs).1 (rfo true rs).2) rs.length S2 I2 J2)) args s 0 0 A) (F0 m 25 ls []) := by
    intro n9
    induction n9 with
    | zero =>
      intro i9 S1 I1 f1 H locs ls hi qo qg X V hl
      have q24 : I1 24 dp = nI rs.length := by rw [qo.1 24 (by decide) (by decide)]; exact h24
      have q26 : I1 26 dp = 1 := by rw [qo.1 26 (by decide) (by decide)]; exact h26
      refine lv_iload_n hx hb d_Mo_close_25 rfl (lv_at hl 0 rfl) ?_
      refine lv_aload_n hx hb d_Mo_close_26 rfl (lv_at hl 1 rfl) ?_
      refine mo_getA C V X 24 (by decide) (by decide) f_Mo_63 rfl d_Mo_close_27 ?_
      refine lv_iload_n hx hb d_Mo_close_30 rfl (lv_at hl 2 rfl) ?_
      refine mo_ild (k := 24) (i := dp) (n := 8) C V X (by decide) (by decide) rfl (by omega) (by decide) d_Mo_close_31 ?_
      rw [show I1 24 dp = nI rs.length from q24]
      refine lv_icmp_ge (tgt := 109) hx hb d_Mo_close_32 (by decide) (fun c2 => ?_) (fun c2 => absurd (nI_le (by omega) (by omega)) c2)
      refine lv_aload_n hx hb d_Mo_close_109 rfl (lv_at hl 1 rfl) ?_
      refine lv_aload_n hx hb d_Mo_close_110 rfl (lv_at hl 1 rfl) ?_
      refine lv_aload_n hx hb d_Mo_close_111 rfl (lv_at hl 1 rfl) ?_
      refine mo_getA C V X 26 (by decide) (by decide) f_Mo_69 rfl d_Mo_close_112 ?_
      refine lv_iload_n hx hb d_Mo_close_115 rfl (lv_at hl 2 rfl) ?_
      refine mo_zld (k := 26) (i := dp) (n := 8) C V X (by decide) (by decide) rfl (by omega) (by decide) d_Mo_close_116 ?_
      rw [show I1 26 dp = 1 from q26]
      refine lv_if_eq (tgt := 125) hx hb d_Mo_close_117 (by decide) (fun c3 => absurd c3 (by decide)) (fun c3 => ?_)
      refine lv_bipush (v := 6) hx hb d_Mo_close_120 (by decide) ?_
      refine lv_goto (tgt := 126) hx hb d_Mo_close_122 (by decide) ?_
      have hi9 : i9 = rs.length := by omega
      subst hi9
      rw [List.take_length] at qg
      have hln := rfo_len (ob := true) (rs := rs)
      have q11 : S1 11 = nI nv := by rw [qo.2 11 (by decide), va_up_n (by decide), va_up_n (by decide)]; exact h11
      have q12 : S1 12 = nI np := by rw [qo.2 12 (by decide), va_up_n (by decide), va_up_n (by decide)]; exact h12
      refine gh_callV C V hl.1 m_Mo_seal l_Mo_230 (c_Mo_seal2 l E _ _ a ad _ _ _ 29 nv 0 np 6 _ _ X.1 qg q11 q12 (by omega) h29 (by omega) (by omega) (by decide)) rfl X.1.1 gc_Mo ⟨by first | decide | omega | (dsimp only; omega), by first | decide | omega | (dsimp only; omega)⟩ ⟨by first | decide | omega | (dsimp only; omega), by first | decide | omega | (dsimp only; omega)⟩ (Nat.le_of_ble_eq_true rfl) rfl d_Mo_close_126 (fun r z9 H locs hp9 V1 => ?_)
      obtain ⟨rfl, S3, I3, J3, X2, hs1, hs2, hs3⟩ := hp9
      have X := X.then X2
      have V := V1
      refine W.eq (g2 := F0 m 129 ls [.int (nI nv), .ref a]) rfl ?_
      refine mo_putS C V X 28 (by decide) (by decide) f_Mo_189 rfl rfl rfl d_Mo_close_129 (fun f1 H locs V1 X1 => ?_)
      clear V X
      have V := V1
      have X := X1
      clear V1 X1
      refine gh_retv hAe C V hr hlocks d_Mo_close_132 (by first | decide | omega | (dsimp only; omega)) (by first | decide | omega | (dsimp only; omega)) ?_
      refine ⟨rfl, _, _, _, X, ?_, cl_E (ob := true) qo qg hs1 hs2 hs3 hnv h29 hlen hp8 hw hh⟩
      rw [va_up_n (by decide), hs1.2.2.2.1 21 (by decide) (by decide), qo.2 21 (by decide), va_up_n (by decide), va_up_s]
    | succ n9 ih =>
      intro i9 S1 I1 f1 H locs ls hi qo qg X V hl
      have q24 : I1 24 dp = nI rs.length := by rw [qo.1 24 (by decide) (by decide)]; exact h24
      have q26 : I1 26 dp = 1 := by rw [qo.1 26 (by decide) (by decide)]; exact h26
      obtain ⟨v9, y9, hv1, hv2, hv3⟩ := hN i9 (by omega)
      have q22 : I1 22 (16 * dp + i9) = nI v9 := by rw [qo.1 22 (by decide) (by decide)]; exact hv1
      have hln := rfo_len (ob := true) (rs := rs.take i9)
      have hln2 : (rs.take i9).length ≤ 16 := by rw [List.length_take]; omega
      have hv2 := hv2.keep (qo.ma (b0 := 29) (pb := 0) (J := J)) (Nat.le_refl _) (Nat.le_refl _) (by omega)
      obtain ⟨hy1, hy2, hy3⟩ := hv3 rfl
      have q23 : I1 23 (16 * dp + i9) = nI y9 := by rw [qo.1 23 (by decide) (by decide)]; exact hy1
      have hy2 := hy2.keep (qo.ma (b0 := 29) (pb := 0) (np := np) (J := J)) (Nat.le_refl _)
      refine lv_iload_n hx hb d_Mo_close_25 rfl (lv_at hl 0 rfl) ?_
      refine lv_aload_n hx hb d_Mo_close_26 rfl (lv_at hl 1 rfl) ?_
      refine mo_getA C V X 24 (by decide) (by decide) f_Mo_63 rfl d_Mo_close_27 ?_
      refine lv_iload_n hx hb d_Mo_close_30 rfl (lv_at hl 2 rfl) ?_
      refine mo_ild (k := 24) (i := dp) (n := 8) C V X (by decide) (by decide) rfl (by omega) (by decide) d_Mo_close_31 ?_
      rw [show I1 24 dp = nI rs.length from q24]
      refine lv_icmp_ge (tgt := 109) hx hb d_Mo_close_32 (by decide) (fun c4 => absurd c4 (nI_ge (by omega) (by omega))) (fun c4 => ?_)
      refine lv_aload_n hx hb d_Mo_close_35 rfl (lv_at hl 1 rfl) ?_
      refine mo_getA C V X 26 (by decide) (by decide) f_Mo_69 rfl d_Mo_close_36 ?_
      refine lv_iload_n hx hb d_Mo_close_39 rfl (lv_at hl 2 rfl) ?_
      refine mo_zld (k := 26) (i := dp) (n := 8) C V X (by decide) (by decide) rfl (by omega) (by decide) d_Mo_close_40 ?_
      rw [show I1 26 dp = 1 from q26]
      refine lv_if_eq (tgt := 73) hx hb d_Mo_close_41 (by decide) (fun c5 => absurd c5 (by decide)) (fun c5 => ?_)
      refine lv_aload_n hx hb d_Mo_close_44 rfl (lv_at hl 1 rfl) ?_
      refine lv_aload_n hx hb d_Mo_close_45 rfl (lv_at hl 1 rfl) ?_
      refine mo_getA C V X 23 (by decide) (by decide) f_Mo_60 rfl d_Mo_close_46 ?_
      refine lv_bipush (v := 16) hx hb d_Mo_close_49 (by decide) ?_
      refine lv_iload_n hx hb d_Mo_close_51 rfl (lv_at hl 2 rfl) ?_
      refine gn_imul (a := 16) (b := dp) hx hb d_Mo_close_52 ?_
      refine lv_iload_n hx hb d_Mo_close_53 rfl (lv_at hl 0 rfl) ?_
      refine gn_iadd (a := 16 * dp) (b := i9) hx hb d_Mo_close_54 ?_
      refine mo_ild (k := 23) (i := (16 * dp) + i9) (n := 128) C V X (by decide) (by decide) rfl (by omega) (by decide) d_Mo_close_55 ?_
      rw [show I1 23 ((16 * dp) + i9) = nI y9 from q23]
      refine lv_aload_n hx hb d_Mo_close_56 rfl (lv_at hl 1 rfl) ?_
      refine mo_getA C V X 22 (by decide) (by decide) f_Mo_57 rfl d_Mo_close_57 ?_
      refine lv_bipush (v := 16) hx hb d_Mo_close_60 (by decide) ?_
      refine lv_iload_n hx hb d_Mo_close_62 rfl (lv_at hl 2 rfl) ?_
      refine gn_imul (a := 16) (b := dp) hx hb d_Mo_close_63 ?_
      refine lv_iload_n hx hb d_Mo_close_64 rfl (lv_at hl 0 rfl) ?_
      refine gn_iadd (a := 16 * dp) (b := i9) hx hb d_Mo_close_65 ?_
      refine mo_ild (k := 22) (i := (16 * dp) + i9) (n := 128) C V X (by decide) (by decide) rfl (by omega) (by decide) d_Mo_close_66 ?_
      rw [show I1 22 ((16 * dp) + i9) = nI v9 from q22]
      refine gh_callV C V hl.1 m_Mo_member l_Mo_227 (c_Mo_member l E _ _ a ad _ _ _ 29 nv 0 np y9 v9 _ _ _ _ X.1 qg rfo_eq (by omega) hv2 hy2 hy3 (by omega)) rfl X.1.1 gc_Mo ⟨by first | decide | omega | (dsimp only; omega), by first | decide | omega | (dsimp only; omega)⟩ ⟨by first | decide | omega | (dsimp only; omega), by first | decide | omega | (dsimp only; omega)⟩ (Nat.le_of_ble_eq_true rfl) rfl d_Mo_close_67 (fun r z9 H locs hp9 V1 => ?_)
      obtain ⟨rfl, S4, I4, X2, qg2, qo2⟩ := hp9
      have X := X.then X2
      have V := V1
      refine W.eq (g2 := F0 m 70 ls []) rfl ?_
      refine lv_goto (tgt := 103) hx hb d_Mo_close_70 (by decide) ?_
      refine lv_iinc (k := 0) (v := (nI i9) + 1) hx hb d_Mo_close_103 hl rfl (by rfl) (by decide) rfl (fun ls hl => ?_)
      have hl : lv_has ls 3 [(2, .int (nI (i9 + 1))), (0, .ref a), (1, .int (nI dp))] := by rw [nI_succ]; exact hl
      refine lv_goto (tgt := 25) hx hb d_Mo_close_106 (by decide) ?_
      have hl : lv_has ls 3 [(2, .int (nI (i9 + 1))), (0, .ref a), (1, .int (nI dp))] := lv_sub hl [0, 1, 2] rfl
      have hl : lv_has ls 3 [(2, .int (nI (i9 + 1))), (0, .ref a), (1, .int (nI dp))] := hl
      have htk := rfo_tk (ob := true) (rs := rs) (n := i9) (by omega)
      exact ih (i9 + 1) _ _ _ H locs ls (by omega) (qo.tr qo2) (by rw [htk]; exact qg2) X V hl
  exact loop (rs.length) 0 _ _ _ _ _ ls (by omega) ⟨fun _ _ _ => rfl, fun _ _ => rfl⟩ ⟨fun _ => 0, fun _ => 0, va_up_s, Nat.zero_le _, Nat.le_refl _, fun j hj => absurd hj (Nat.not_lt_zero j), fun j hj => absurd hj (Nat.not_lt_zero j)⟩ X V hl
