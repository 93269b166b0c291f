/-! ask, by the depth that is left. Printed by wip/whole/gen_ru18.py. -/
set_option maxHeartbeats 4000000 in
set_option maxRecDepth 100000 in
theorem c_Ru_ask (l : Launch) (E : gh_E) (ρ Z : Nat → Nat) (q0 N : Nat) (cb bg : Nat → Nat) : ∀ n, rk_A l E ρ Z q0 N cb bg n := by
  intro n
  induction n with
  | zero =>
    intro sz f φ b s0 e0 u k v T F hR hφb hFb hrs
    exact hrs.elim
  | succ n IH =>
    intro sz f φ b s0 e0 u k v T F hR hφb hFb hrs
    obtain ⟨pt, w9, it, el, gv, pl, va, X, Y, fi, se, hx9⟩ := rs_ex.mp hrs
    have hx8 := hx9
    obtain ⟨hs, ⟨hk250, hn19, hFk⟩, ⟨hqw, hq4, hq6⟩, ⟨hit, hel, hva⟩, -, hst⟩ := hx8
    have hptN := (qw_lt hqw).1
    have hp26 := (qw_lt hqw).2
    refine gh_open (by decide) (Nat.le_of_ble_eq_true rfl) ?_
    intro p e s m args below meth c A ls hAe C V hr hlocks hname hl
    have hx := C.1
    have hb := C.2.1
    have hl : lv_has ls 2 [(0, .ref (Z 1)), (1, .ref (Z (1000 + k)))] := hl
    have hRc := hR
    obtain ⟨h1R, ⟨hz, ⟨p206, p207⟩, ⟨gS, hgS, hgS2⟩, ⟨gG, hgG, hgG2⟩, hVR, hqR, hcdR, hbaR, hN60, hq0⟩, ⟨hgaV, hgaR⟩, hSR, hnon⟩ := hRc
    obtain ⟨pvsR, hvsR, hnuR, hnoR, hyeR, -⟩ := id hVR
    refine lv_aload_n hx hb d_Ru_ask_0 rfl (lv_at hl 1 rfl) ?_
    refine lv_ifnonnull (tgt := 6) hx hb d_Ru_ask_1 (by decide) ?_
    refine lv_aload_n hx hb d_Ru_ask_6 rfl (lv_at hl 0 rfl) ?_
    refine gh_get C V h1R gc_Ru gi_Ru 4 (by decide) f_Ru_44 rfl rfl d_Ru_ask_7 ?_
    refine lv_aload_n hx hb d_Ru_ask_10 rfl (lv_at hl 1 rfl) ?_
    refine gh_get C V hs gc_St gi_St 0 (by decide) f_Ru_75 rfl rfl d_Ru_ask_11 ?_
    refine gh_callV C V hl.1 m_Qu_partAt l_Ru_100 (c_Qu_partAt l E _ f (Z q0) (Z (q0 + 1)) (Z (q0 + 2)) N cb bg pt hN60 hqR hcdR hbaR hptN) rfl hqR gc_Qu ⟨by first | decide | omega | (dsimp only; omega), by first | decide | omega | (dsimp only; omega)⟩ ⟨by first | decide | omega | (dsimp only; omega), by first | decide | omega | (dsimp only; omega)⟩ (Nat.le_of_ble_eq_true rfl) rfl d_Ru_ask_14 (fun r z9 H locs hp V => ?_)
    obtain ⟨rfl, he9⟩ := hp
    rw [he9] at V
    refine W.eq (g2 := F0 m 17 ls [.int (nI (cb pt))]) rfl ?_
    rcases (show cb pt = 0 ∨ cb pt = 1 ∨ cb pt = 2 ∨ cb pt = 3 ∨ cb pt = 4 ∨ cb pt = 5 ∨ cb pt = 6 ∨ cb pt = 7 ∨ cb pt = 8 ∨ cb pt = 9 ∨ cb pt = 10 ∨ cb pt = 11 ∨ cb pt = 12 ∨ cb pt = 13 ∨ cb pt = 14 ∨ cb pt = 15 ∨ cb pt = 16 ∨ cb pt = 17 ∨ cb pt = 18 ∨ cb pt = 19 ∨ cb pt = 20 ∨ cb pt = 21 ∨ cb pt = 22 ∨ cb pt = 23 ∨ cb pt = 24 ∨ cb pt = 25 ∨ cb pt = 26 by omega) with hk | hk | hk | hk | hk | hk | hk | hk | hk | hk | hk | hk | hk | hk | hk | hk | hk | hk | hk | hk | hk | hk | hk | hk | hk | hk | hk
    · rw [hk]
      refine lv_tableOut (tgt := 190) hx hb d_Ru_ask_17 (by decide) (by decide) ?_
      refine lv_aload_n hx hb d_Ru_ask_190 rfl (lv_at hl 0 rfl) ?_
      refine lv_aload_n hx hb d_Ru_ask_191 rfl (lv_at hl 1 rfl) ?_
      refine gh_callV C V hl.1 m_Ru_askOnlyValue l_Ru_134 (c_Ru_askOnlyValue l E _ f ρ Z q0 N cb bg φ b s0 e0 n u k v T F pt w9 it el gv pl va X Y fi se hR hφb hFb hx9 IH (by omega)) rfl h1R gc_Ru ⟨by first | decide | omega | (dsimp only; omega), by first | decide | omega | (dsimp only; omega)⟩ ⟨by first | decide | omega | (dsimp only; omega), by first | decide | omega | (dsimp only; omega)⟩ (Nat.le_of_ble_eq_true rfl) rfl d_Ru_ask_192 (fun r g9 H locs hp V => ?_)
      have hp9 := hp
      obtain ⟨φ1, b1, -, -, -, hP9, -⟩ := hp9
      obtain ⟨z9, rfl⟩ := hP9.ret
      refine W.eq (g2 := F0 m 195 ls [.int z9]) rfl ?_
      refine gh_reti hAe C V hr hlocks d_Ru_ask_195 (by first | decide | omega | (dsimp only; omega)) (by first | decide | omega | (dsimp only; omega)) ?_
      exact hp
    · rw [hk]
      refine lv_tableOut (tgt := 190) hx hb d_Ru_ask_17 (by decide) (by decide) ?_
      refine lv_aload_n hx hb d_Ru_ask_190 rfl (lv_at hl 0 rfl) ?_
      refine lv_aload_n hx hb d_Ru_ask_191 rfl (lv_at hl 1 rfl) ?_
      refine gh_callV C V hl.1 m_Ru_askOnlyValue l_Ru_134 (c_Ru_askOnlyValue l E _ f ρ Z q0 N cb bg φ b s0 e0 n u k v T F pt w9 it el gv pl va X Y fi se hR hφb hFb hx9 IH (by omega)) rfl h1R gc_Ru ⟨by first | decide | omega | (dsimp only; omega), by first | decide | omega | (dsimp only; omega)⟩ ⟨by first | decide | omega | (dsimp only; omega), by first | decide | omega | (dsimp only; omega)⟩ (Nat.le_of_ble_eq_true rfl) rfl d_Ru_ask_192 (fun r g9 H locs hp V => ?_)
      have hp9 := hp
      obtain ⟨φ1, b1, -, -, -, hP9, -⟩ := hp9
      obtain ⟨z9, rfl⟩ := hP9.ret
      refine W.eq (g2 := F0 m 195 ls [.int z9]) rfl ?_
      refine gh_reti hAe C V hr hlocks d_Ru_ask_195 (by first | decide | omega | (dsimp only; omega)) (by first | decide | omega | (dsimp only; omega)) ?_
      exact hp
    · rw [hk]
      refine lv_tableOut (tgt := 190) hx hb d_Ru_ask_17 (by decide) (by decide) ?_
      refine lv_aload_n hx hb d_Ru_ask_190 rfl (lv_at hl 0 rfl) ?_
      refine lv_aload_n hx hb d_Ru_ask_191 rfl (lv_at hl 1 rfl) ?_
      refine gh_callV C V hl.1 m_Ru_askOnlyValue l_Ru_134 (c_Ru_askOnlyValue l E _ f ρ Z q0 N cb bg φ b s0 e0 n u k v T F pt w9 it el gv pl va X Y fi se hR hφb hFb hx9 IH (by omega)) rfl h1R gc_Ru ⟨by first | decide | omega | (dsimp only; omega), by first | decide | omega | (dsimp only; omega)⟩ ⟨by first | decide | omega | (dsimp only; omega), by first | decide | omega | (dsimp only; omega)⟩ (Nat.le_of_ble_eq_true rfl) rfl d_Ru_ask_192 (fun r g9 H locs hp V => ?_)
      have hp9 := hp
      obtain ⟨φ1, b1, -, -, -, hP9, -⟩ := hp9
      obtain ⟨z9, rfl⟩ := hP9.ret
      refine W.eq (g2 := F0 m 195 ls [.int z9]) rfl ?_
      refine gh_reti hAe C V hr hlocks d_Ru_ask_195 (by first | decide | omega | (dsimp only; omega)) (by first | decide | omega | (dsimp only; omega)) ?_
      exact hp
    · rw [hk]
      refine lv_tableIn (off := 111) (tgt := 128) hx hb d_Ru_ask_17 (by decide) (by decide) (by decide) (by decide) ?_
      refine lv_aload_n hx hb d_Ru_ask_128 rfl (lv_at hl 0 rfl) ?_
      refine lv_aload_n hx hb d_Ru_ask_129 rfl (lv_at hl 1 rfl) ?_
      refine gh_callV C V hl.1 m_Ru_askEach l_Ru_104 (c_Ru_askEach l E _ f ρ Z q0 N cb bg φ b s0 e0 n u k v T F pt w9 it el gv pl va X Y fi se hR hφb hFb hx9 IH hk) rfl h1R gc_Ru ⟨by first | decide | omega | (dsimp only; omega), by first | decide | omega | (dsimp only; omega)⟩ ⟨by first | decide | omega | (dsimp only; omega), by first | decide | omega | (dsimp only; omega)⟩ (Nat.le_of_ble_eq_true rfl) rfl d_Ru_ask_130 (fun r g9 H locs hp V => ?_)
      have hp9 := hp
      obtain ⟨φ1, b1, -, -, -, hP9, -⟩ := hp9
      obtain ⟨z9, rfl⟩ := hP9.ret
      refine W.eq (g2 := F0 m 133 ls [.int z9]) rfl ?_
      refine gh_reti hAe C V hr hlocks d_Ru_ask_133 (by first | decide | omega | (dsimp only; omega)) (by first | decide | omega | (dsimp only; omega)) ?_
      exact hp
    · rw [hk]
      refine lv_tableIn (off := 117) (tgt := 134) hx hb d_Ru_ask_17 (by decide) (by decide) (by decide) (by decide) ?_
      refine lv_aload_n hx hb d_Ru_ask_134 rfl (lv_at hl 0 rfl) ?_
      refine lv_aload_n hx hb d_Ru_ask_135 rfl (lv_at hl 1 rfl) ?_
      refine gh_callV C V hl.1 m_Ru_askDeep l_Ru_107 (c_Ru_askDeep l E _ f ρ Z q0 N cb bg φ b s0 e0 n u k v T F pt w9 it el gv pl va X Y fi se hR hφb hFb hx9 IH hk) rfl h1R gc_Ru ⟨by first | decide | omega | (dsimp only; omega), by first | decide | omega | (dsimp only; omega)⟩ ⟨by first | decide | omega | (dsimp only; omega), by first | decide | omega | (dsimp only; omega)⟩ (Nat.le_of_ble_eq_true rfl) rfl d_Ru_ask_136 (fun r g9 H locs hp V => ?_)
      have hp9 := hp
      obtain ⟨φ1, b1, -, -, -, hP9, -⟩ := hp9
      obtain ⟨z9, rfl⟩ := hP9.ret
      refine W.eq (g2 := F0 m 139 ls [.int z9]) rfl ?_
      refine gh_reti hAe C V hr hlocks d_Ru_ask_139 (by first | decide | omega | (dsimp only; omega)) (by first | decide | omega | (dsimp only; omega)) ?_
      exact hp
    · rw [hk]
      refine lv_tableIn (off := 173) (tgt := 190) hx hb d_Ru_ask_17 (by decide) (by decide) (by decide) (by decide) ?_
      refine lv_aload_n hx hb d_Ru_ask_190 rfl (lv_at hl 0 rfl) ?_
      refine lv_aload_n hx hb d_Ru_ask_191 rfl (lv_at hl 1 rfl) ?_
      refine gh_callV C V hl.1 m_Ru_askOnlyValue l_Ru_134 (c_Ru_askOnlyValue l E _ f ρ Z q0 N cb bg φ b s0 e0 n u k v T F pt w9 it el gv pl va X Y fi se hR hφb hFb hx9 IH (by omega)) rfl h1R gc_Ru ⟨by first | decide | omega | (dsimp only; omega), by first | decide | omega | (dsimp only; omega)⟩ ⟨by first | decide | omega | (dsimp only; omega), by first | decide | omega | (dsimp only; omega)⟩ (Nat.le_of_ble_eq_true rfl) rfl d_Ru_ask_192 (fun r g9 H locs hp V => ?_)
      have hp9 := hp
      obtain ⟨φ1, b1, -, -, -, hP9, -⟩ := hp9
      obtain ⟨z9, rfl⟩ := hP9.ret
      refine W.eq (g2 := F0 m 195 ls [.int z9]) rfl ?_
      refine gh_reti hAe C V hr hlocks d_Ru_ask_195 (by first | decide | omega | (dsimp only; omega)) (by first | decide | omega | (dsimp only; omega)) ?_
      exact hp
    · rw [hk]
      refine lv_tableIn (off := 173) (tgt := 190) hx hb d_Ru_ask_17 (by decide) (by decide) (by decide) (by decide) ?_
      refine lv_aload_n hx hb d_Ru_ask_190 rfl (lv_at hl 0 rfl) ?_
      refine lv_aload_n hx hb d_Ru_ask_191 rfl (lv_at hl 1 rfl) ?_
      refine gh_callV C V hl.1 m_Ru_askOnlyValue l_Ru_134 (c_Ru_askOnlyValue l E _ f ρ Z q0 N cb bg φ b s0 e0 n u k v T F pt w9 it el gv pl va X Y fi se hR hφb hFb hx9 IH (by omega)) rfl h1R gc_Ru ⟨by first | decide | omega | (dsimp only; omega), by first | decide | omega | (dsimp only; omega)⟩ ⟨by first | decide | omega | (dsimp only; omega), by first | decide | omega | (dsimp only; omega)⟩ (Nat.le_of_ble_eq_true rfl) rfl d_Ru_ask_192 (fun r g9 H locs hp V => ?_)
      have hp9 := hp
      obtain ⟨φ1, b1, -, -, -, hP9, -⟩ := hp9
      obtain ⟨z9, rfl⟩ := hP9.ret
      refine W.eq (g2 := F0 m 195 ls [.int z9]) rfl ?_
      refine gh_reti hAe C V hr hlocks d_Ru_ask_195 (by first | decide | omega | (dsimp only; omega)) (by first | decide | omega | (dsimp only; omega)) ?_
      exact hp
    · rw [hk]
      refine lv_tableIn (off := 173) (tgt := 190) hx hb d_Ru_ask_17 (by decide) (by decide) (by decide) (by decide) ?_
      refine lv_aload_n hx hb d_Ru_ask_190 rfl (lv_at hl 0 rfl) ?_
      refine lv_aload_n hx hb d_Ru_ask_191 rfl (lv_at hl 1 rfl) ?_
      refine gh_callV C V hl.1 m_Ru_askOnlyValue l_Ru_134 (c_Ru_askOnlyValue l E _ f ρ Z q0 N cb bg φ b s0 e0 n u k v T F pt w9 it el gv pl va X Y fi se hR hφb hFb hx9 IH (by omega)) rfl h1R gc_Ru ⟨by first | decide | omega | (dsimp only; omega), by first | decide | omega | (dsimp only; omega)⟩ ⟨by first | decide | omega | (dsimp only; omega), by first | decide | omega | (dsimp only; omega)⟩ (Nat.le_of_ble_eq_true rfl) rfl d_Ru_ask_192 (fun r g9 H locs hp V => ?_)
      have hp9 := hp
      obtain ⟨φ1, b1, -, -, -, hP9, -⟩ := hp9
      obtain ⟨z9, rfl⟩ := hP9.ret
      refine W.eq (g2 := F0 m 195 ls [.int z9]) rfl ?_
      refine gh_reti hAe C V hr hlocks d_Ru_ask_195 (by first | decide | omega | (dsimp only; omega)) (by first | decide | omega | (dsimp only; omega)) ?_
      exact hp
    · rw [hk]
      refine lv_tableIn (off := 161) (tgt := 178) hx hb d_Ru_ask_17 (by decide) (by decide) (by decide) (by decide) ?_
      refine lv_aload_n hx hb d_Ru_ask_178 rfl (lv_at hl 0 rfl) ?_
      refine lv_aload_n hx hb d_Ru_ask_179 rfl (lv_at hl 1 rfl) ?_
      refine gh_callV C V hl.1 m_Ru_askPipeOrIf l_Ru_128 (c_Ru_askPipeOrIf l E _ f ρ Z q0 N cb bg φ b s0 e0 n u k v T F pt w9 it el gv pl va X Y fi se hR hφb hFb hx9 IH (by omega)) rfl h1R gc_Ru ⟨by first | decide | omega | (dsimp only; omega), by first | decide | omega | (dsimp only; omega)⟩ ⟨by first | decide | omega | (dsimp only; omega), by first | decide | omega | (dsimp only; omega)⟩ (Nat.le_of_ble_eq_true rfl) rfl d_Ru_ask_180 (fun r g9 H locs hp V => ?_)
      have hp9 := hp
      obtain ⟨φ1, b1, -, -, -, hP9, -⟩ := hp9
      obtain ⟨z9, rfl⟩ := hP9.ret
      refine W.eq (g2 := F0 m 183 ls [.int z9]) rfl ?_
      refine gh_reti hAe C V hr hlocks d_Ru_ask_183 (by first | decide | omega | (dsimp only; omega)) (by first | decide | omega | (dsimp only; omega)) ?_
      exact hp
    · rw [hk]
      refine lv_tableIn (off := 123) (tgt := 140) hx hb d_Ru_ask_17 (by decide) (by decide) (by decide) (by decide) ?_
      refine lv_aload_n hx hb d_Ru_ask_140 rfl (lv_at hl 0 rfl) ?_
      refine lv_aload_n hx hb d_Ru_ask_141 rfl (lv_at hl 1 rfl) ?_
      refine gh_callV C V hl.1 m_Ru_askBoth l_Ru_110 (c_Ru_askBoth l E _ f ρ Z q0 N cb bg φ b s0 e0 n u k v T F pt w9 it el gv pl va X Y fi se hR hφb hFb hx9 IH hk) rfl h1R gc_Ru ⟨by first | decide | omega | (dsimp only; omega), by first | decide | omega | (dsimp only; omega)⟩ ⟨by first | decide | omega | (dsimp only; omega), by first | decide | omega | (dsimp only; omega)⟩ (Nat.le_of_ble_eq_true rfl) rfl d_Ru_ask_142 (fun r g9 H locs hp V => ?_)
      have hp9 := hp
      obtain ⟨φ1, b1, -, -, -, hP9, -⟩ := hp9
      obtain ⟨z9, rfl⟩ := hP9.ret
      refine W.eq (g2 := F0 m 145 ls [.int z9]) rfl ?_
      refine gh_reti hAe C V hr hlocks d_Ru_ask_145 (by first | decide | omega | (dsimp only; omega)) (by first | decide | omega | (dsimp only; omega)) ?_
      exact hp
    · rw [hk]
      refine lv_tableIn (off := 129) (tgt := 146) hx hb d_Ru_ask_17 (by decide) (by decide) (by decide) (by decide) ?_
      refine lv_aload_n hx hb d_Ru_ask_146 rfl (lv_at hl 0 rfl) ?_
      refine lv_aload_n hx hb d_Ru_ask_147 rfl (lv_at hl 1 rfl) ?_
      refine gh_callV C V hl.1 m_Ru_askElse l_Ru_113 (c_Ru_askElse l E _ f ρ Z q0 N cb bg φ b s0 e0 n u k v T F pt w9 it el gv pl va X Y fi se hR hφb hFb hx9 IH hk) rfl h1R gc_Ru ⟨by first | decide | omega | (dsimp only; omega), by first | decide | omega | (dsimp only; omega)⟩ ⟨by first | decide | omega | (dsimp only; omega), by first | decide | omega | (dsimp only; omega)⟩ (Nat.le_of_ble_eq_true rfl) rfl d_Ru_ask_148 (fun r g9 H locs hp V => ?_)
      have hp9 := hp
      obtain ⟨φ1, b1, -, -, -, hP9, -⟩ := hp9
      obtain ⟨z9, rfl⟩ := hP9.ret
      refine W.eq (g2 := F0 m 151 ls [.int z9]) rfl ?_
      refine gh_reti hAe C V hr hlocks d_Ru_ask_151 (by first | decide | omega | (dsimp only; omega)) (by first | decide | omega | (dsimp only; omega)) ?_
      exact hp
    · rw [hk]
      refine lv_tableIn (off := 161) (tgt := 178) hx hb d_Ru_ask_17 (by decide) (by decide) (by decide) (by decide) ?_
      refine lv_aload_n hx hb d_Ru_ask_178 rfl (lv_at hl 0 rfl) ?_
      refine lv_aload_n hx hb d_Ru_ask_179 rfl (lv_at hl 1 rfl) ?_
      refine gh_callV C V hl.1 m_Ru_askPipeOrIf l_Ru_128 (c_Ru_askPipeOrIf l E _ f ρ Z q0 N cb bg φ b s0 e0 n u k v T F pt w9 it el gv pl va X Y fi se hR hφb hFb hx9 IH (by omega)) rfl h1R gc_Ru ⟨by first | decide | omega | (dsimp only; omega), by first | decide | omega | (dsimp only; omega)⟩ ⟨by first | decide | omega | (dsimp only; omega), by first | decide | omega | (dsimp only; omega)⟩ (Nat.le_of_ble_eq_true rfl) rfl d_Ru_ask_180 (fun r g9 H locs hp V => ?_)
      have hp9 := hp
      obtain ⟨φ1, b1, -, -, -, hP9, -⟩ := hp9
      obtain ⟨z9, rfl⟩ := hP9.ret
      refine W.eq (g2 := F0 m 183 ls [.int z9]) rfl ?_
      refine gh_reti hAe C V hr hlocks d_Ru_ask_183 (by first | decide | omega | (dsimp only; omega)) (by first | decide | omega | (dsimp only; omega)) ?_
      exact hp
    · rw [hk]
      refine lv_tableIn (off := 135) (tgt := 152) hx hb d_Ru_ask_17 (by decide) (by decide) (by decide) (by decide) ?_
      refine lv_aload_n hx hb d_Ru_ask_152 rfl (lv_at hl 0 rfl) ?_
      refine lv_aload_n hx hb d_Ru_ask_153 rfl (lv_at hl 1 rfl) ?_
      refine gh_callV C V hl.1 m_Ru_askList l_Ru_116 (c_Ru_askList l E _ f ρ Z q0 N cb bg φ b s0 e0 n u k v T F pt w9 it el gv pl va X Y fi se hR hφb hFb hx9 IH hk) rfl h1R gc_Ru ⟨by first | decide | omega | (dsimp only; omega), by first | decide | omega | (dsimp only; omega)⟩ ⟨by first | decide | omega | (dsimp only; omega), by first | decide | omega | (dsimp only; omega)⟩ (Nat.le_of_ble_eq_true rfl) rfl d_Ru_ask_154 (fun r g9 H locs hp V => ?_)
      have hp9 := hp
      obtain ⟨φ1, b1, -, -, -, hP9, -⟩ := hp9
      obtain ⟨z9, rfl⟩ := hP9.ret
      refine W.eq (g2 := F0 m 157 ls [.int z9]) rfl ?_
      refine gh_reti hAe C V hr hlocks d_Ru_ask_157 (by first | decide | omega | (dsimp only; omega)) (by first | decide | omega | (dsimp only; omega)) ?_
      exact hp
    · rw [hk]
      refine lv_tableIn (off := 141) (tgt := 158) hx hb d_Ru_ask_17 (by decide) (by decide) (by decide) (by decide) ?_
      refine lv_aload_n hx hb d_Ru_ask_158 rfl (lv_at hl 0 rfl) ?_
      refine lv_aload_n hx hb d_Ru_ask_159 rfl (lv_at hl 1 rfl) ?_
      refine gh_callV C V hl.1 m_Ru_askTry l_Ru_119 (c_Ru_askTry l E _ f ρ Z q0 N cb bg φ b s0 e0 n u k v T F pt w9 it el gv pl va X Y fi se hR hφb hFb hx9 IH hk) rfl h1R gc_Ru ⟨by first | decide | omega | (dsimp only; omega), by first | decide | omega | (dsimp only; omega)⟩ ⟨by first | decide | omega | (dsimp only; omega), by first | decide | omega | (dsimp only; omega)⟩ (Nat.le_of_ble_eq_true rfl) rfl d_Ru_ask_160 (fun r g9 H locs hp V => ?_)
      have hp9 := hp
      obtain ⟨φ1, b1, -, -, -, hP9, -⟩ := hp9
      obtain ⟨z9, rfl⟩ := hP9.ret
      refine W.eq (g2 := F0 m 163 ls [.int z9]) rfl ?_
      refine gh_reti hAe C V hr hlocks d_Ru_ask_163 (by first | decide | omega | (dsimp only; omega)) (by first | decide | omega | (dsimp only; omega)) ?_
      exact hp
    · rw [hk]
      refine lv_tableIn (off := 147) (tgt := 164) hx hb d_Ru_ask_17 (by decide) (by decide) (by decide) (by decide) ?_
      refine lv_aload_n hx hb d_Ru_ask_164 rfl (lv_at hl 0 rfl) ?_
      refine lv_aload_n hx hb d_Ru_ask_165 rfl (lv_at hl 1 rfl) ?_
      refine gh_callV C V hl.1 m_Ru_askFold l_Ru_122 (c_Ru_askFold l E _ f ρ Z q0 N cb bg φ b s0 e0 n u k v T F pt w9 it el gv pl va X Y fi se hR hφb hFb hx9 IH hk) rfl h1R gc_Ru ⟨by first | decide | omega | (dsimp only; omega), by first | decide | omega | (dsimp only; omega)⟩ ⟨by first | decide | omega | (dsimp only; omega), by first | decide | omega | (dsimp only; omega)⟩ (Nat.le_of_ble_eq_true rfl) rfl d_Ru_ask_166 (fun r g9 H locs hp V => ?_)
      have hp9 := hp
      obtain ⟨φ1, b1, -, -, -, hP9, -⟩ := hp9
      obtain ⟨z9, rfl⟩ := hP9.ret
      refine W.eq (g2 := F0 m 169 ls [.int z9]) rfl ?_
      refine gh_reti hAe C V hr hlocks d_Ru_ask_169 (by first | decide | omega | (dsimp only; omega)) (by first | decide | omega | (dsimp only; omega)) ?_
      exact hp
    · rw [hk]
      refine lv_tableIn (off := 173) (tgt := 190) hx hb d_Ru_ask_17 (by decide) (by decide) (by decide) (by decide) ?_
      refine lv_aload_n hx hb d_Ru_ask_190 rfl (lv_at hl 0 rfl) ?_
      refine lv_aload_n hx hb d_Ru_ask_191 rfl (lv_at hl 1 rfl) ?_
      refine gh_callV C V hl.1 m_Ru_askOnlyValue l_Ru_134 (c_Ru_askOnlyValue l E _ f ρ Z q0 N cb bg φ b s0 e0 n u k v T F pt w9 it el gv pl va X Y fi se hR hφb hFb hx9 IH (by omega)) rfl h1R gc_Ru ⟨by first | decide | omega | (dsimp only; omega), by first | decide | omega | (dsimp only; omega)⟩ ⟨by first | decide | omega | (dsimp only; omega), by first | decide | omega | (dsimp only; omega)⟩ (Nat.le_of_ble_eq_true rfl) rfl d_Ru_ask_192 (fun r g9 H locs hp V => ?_)
      have hp9 := hp
      obtain ⟨φ1, b1, -, -, -, hP9, -⟩ := hp9
      obtain ⟨z9, rfl⟩ := hP9.ret
      refine W.eq (g2 := F0 m 195 ls [.int z9]) rfl ?_
      refine gh_reti hAe C V hr hlocks d_Ru_ask_195 (by first | decide | omega | (dsimp only; omega)) (by first | decide | omega | (dsimp only; omega)) ?_
      exact hp
    · rw [hk]
      refine lv_tableIn (off := 153) (tgt := 170) hx hb d_Ru_ask_17 (by decide) (by decide) (by decide) (by decide) ?_
      refine lv_aload_n hx hb d_Ru_ask_170 rfl (lv_at hl 0 rfl) ?_
      refine lv_aload_n hx hb d_Ru_ask_171 rfl (lv_at hl 1 rfl) ?_
      refine gh_callV C V hl.1 m_Ru_askPut l_Ru_125 (c_Ru_askPut l E _ f ρ Z q0 N cb bg φ b s0 e0 n u k v T F pt w9 it el gv pl va X Y fi se hR hφb hFb hx9 IH hk) rfl h1R gc_Ru ⟨by first | decide | omega | (dsimp only; omega), by first | decide | omega | (dsimp only; omega)⟩ ⟨by first | decide | omega | (dsimp only; omega), by first | decide | omega | (dsimp only; omega)⟩ (Nat.le_of_ble_eq_true rfl) rfl d_Ru_ask_172 (fun r g9 H locs hp V => ?_)
      have hp9 := hp
      obtain ⟨φ1, b1, -, -, -, hP9, -⟩ := hp9
      obtain ⟨z9, rfl⟩ := hP9.ret
      refine W.eq (g2 := F0 m 175 ls [.int z9]) rfl ?_
      refine gh_reti hAe C V hr hlocks d_Ru_ask_175 (by first | decide | omega | (dsimp only; omega)) (by first | decide | omega | (dsimp only; omega)) ?_
      exact hp
    · rw [hk]
      refine lv_tableIn (off := 159) (tgt := 176) hx hb d_Ru_ask_17 (by decide) (by decide) (by decide) (by decide) ?_
      refine lv_iconst (v := 0) hx hb d_Ru_ask_176 (by decide) ?_
      refine gh_reti hAe C V hr hlocks d_Ru_ask_177 (by first | decide | omega | (dsimp only; omega)) (by first | decide | omega | (dsimp only; omega)) ?_
      have hT : T = sr_end 0 := by
        rcases hst with ⟨hu, hg0, hp0, hf0, hs0, hv0, hT⟩ | ⟨hu, hg1, hrun⟩
        · rw [hT, sr_B_o, sr_part_17 hk]
        · exact hrun.2.2.2.2.2.2.2.2 (by omega)
      exact ⟨φ, b, hR, ⟨Nat.le_refl _, Nat.le_refl _⟩, gh_fr.rf, Or.inr (Or.inl ⟨0, hT, Nat.zero_le _, rfl, rfl⟩), fun _ => ⟨_, _, _, _, _, _, _, _, va, hs, hva⟩⟩
    · rw [hk]
      refine lv_tableIn (off := 173) (tgt := 190) hx hb d_Ru_ask_17 (by decide) (by decide) (by decide) (by decide) ?_
      refine lv_aload_n hx hb d_Ru_ask_190 rfl (lv_at hl 0 rfl) ?_
      refine lv_aload_n hx hb d_Ru_ask_191 rfl (lv_at hl 1 rfl) ?_
      refine gh_callV C V hl.1 m_Ru_askOnlyValue l_Ru_134 (c_Ru_askOnlyValue l E _ f ρ Z q0 N cb bg φ b s0 e0 n u k v T F pt w9 it el gv pl va X Y fi se hR hφb hFb hx9 IH (by omega)) rfl h1R gc_Ru ⟨by first | decide | omega | (dsimp only; omega), by first | decide | omega | (dsimp only; omega)⟩ ⟨by first | decide | omega | (dsimp only; omega), by first | decide | omega | (dsimp only; omega)⟩ (Nat.le_of_ble_eq_true rfl) rfl d_Ru_ask_192 (fun r g9 H locs hp V => ?_)
      have hp9 := hp
      obtain ⟨φ1, b1, -, -, -, hP9, -⟩ := hp9
      obtain ⟨z9, rfl⟩ := hP9.ret
      refine W.eq (g2 := F0 m 195 ls [.int z9]) rfl ?_
      refine gh_reti hAe C V hr hlocks d_Ru_ask_195 (by first | decide | omega | (dsimp only; omega)) (by first | decide | omega | (dsimp only; omega)) ?_
      exact hp
    · rw [hk]
      refine lv_tableIn (off := 173) (tgt := 190) hx hb d_Ru_ask_17 (by decide) (by decide) (by decide) (by decide) ?_
      refine lv_aload_n hx hb d_Ru_ask_190 rfl (lv_at hl 0 rfl) ?_
      refine lv_aload_n hx hb d_Ru_ask_191 rfl (lv_at hl 1 rfl) ?_
      refine gh_callV C V hl.1 m_Ru_askOnlyValue l_Ru_134 (c_Ru_askOnlyValue l E _ f ρ Z q0 N cb bg φ b s0 e0 n u k v T F pt w9 it el gv pl va X Y fi se hR hφb hFb hx9 IH (by omega)) rfl h1R gc_Ru ⟨by first | decide | omega | (dsimp only; omega), by first | decide | omega | (dsimp only; omega)⟩ ⟨by first | decide | omega | (dsimp only; omega), by first | decide | omega | (dsimp only; omega)⟩ (Nat.le_of_ble_eq_true rfl) rfl d_Ru_ask_192 (fun r g9 H locs hp V => ?_)
      have hp9 := hp
      obtain ⟨φ1, b1, -, -, -, hP9, -⟩ := hp9
      obtain ⟨z9, rfl⟩ := hP9.ret
      refine W.eq (g2 := F0 m 195 ls [.int z9]) rfl ?_
      refine gh_reti hAe C V hr hlocks d_Ru_ask_195 (by first | decide | omega | (dsimp only; omega)) (by first | decide | omega | (dsimp only; omega)) ?_
      exact hp
    · rw [hk]
      refine lv_tableIn (off := 173) (tgt := 190) hx hb d_Ru_ask_17 (by decide) (by decide) (by decide) (by decide) ?_
      refine lv_aload_n hx hb d_Ru_ask_190 rfl (lv_at hl 0 rfl) ?_
      refine lv_aload_n hx hb d_Ru_ask_191 rfl (lv_at hl 1 rfl) ?_
      refine gh_callV C V hl.1 m_Ru_askOnlyValue l_Ru_134 (c_Ru_askOnlyValue l E _ f ρ Z q0 N cb bg φ b s0 e0 n u k v T F pt w9 it el gv pl va X Y fi se hR hφb hFb hx9 IH (by omega)) rfl h1R gc_Ru ⟨by first | decide | omega | (dsimp only; omega), by first | decide | omega | (dsimp only; omega)⟩ ⟨by first | decide | omega | (dsimp only; omega), by first | decide | omega | (dsimp only; omega)⟩ (Nat.le_of_ble_eq_true rfl) rfl d_Ru_ask_192 (fun r g9 H locs hp V => ?_)
      have hp9 := hp
      obtain ⟨φ1, b1, -, -, -, hP9, -⟩ := hp9
      obtain ⟨z9, rfl⟩ := hP9.ret
      refine W.eq (g2 := F0 m 195 ls [.int z9]) rfl ?_
      refine gh_reti hAe C V hr hlocks d_Ru_ask_195 (by first | decide | omega | (dsimp only; omega)) (by first | decide | omega | (dsimp only; omega)) ?_
      exact hp
    · rw [hk]
      refine lv_tableIn (off := 173) (tgt := 190) hx hb d_Ru_ask_17 (by decide) (by decide) (by decide) (by decide) ?_
      refine lv_aload_n hx hb d_Ru_ask_190 rfl (lv_at hl 0 rfl) ?_
      refine lv_aload_n hx hb d_Ru_ask_191 rfl (lv_at hl 1 rfl) ?_
      refine gh_callV C V hl.1 m_Ru_askOnlyValue l_Ru_134 (c_Ru_askOnlyValue l E _ f ρ Z q0 N cb bg φ b s0 e0 n u k v T F pt w9 it el gv pl va X Y fi se hR hφb hFb hx9 IH (by omega)) rfl h1R gc_Ru ⟨by first | decide | omega | (dsimp only; omega), by first | decide | omega | (dsimp only; omega)⟩ ⟨by first | decide | omega | (dsimp only; omega), by first | decide | omega | (dsimp only; omega)⟩ (Nat.le_of_ble_eq_true rfl) rfl d_Ru_ask_192 (fun r g9 H locs hp V => ?_)
      have hp9 := hp
      obtain ⟨φ1, b1, -, -, -, hP9, -⟩ := hp9
      obtain ⟨z9, rfl⟩ := hP9.ret
      refine W.eq (g2 := F0 m 195 ls [.int z9]) rfl ?_
      refine gh_reti hAe C V hr hlocks d_Ru_ask_195 (by first | decide | omega | (dsimp only; omega)) (by first | decide | omega | (dsimp only; omega)) ?_
      exact hp
    · rw [hk]
      refine lv_tableIn (off := 167) (tgt := 184) hx hb d_Ru_ask_17 (by decide) (by decide) (by decide) (by decide) ?_
      refine lv_aload_n hx hb d_Ru_ask_184 rfl (lv_at hl 0 rfl) ?_
      refine lv_aload_n hx hb d_Ru_ask_185 rfl (lv_at hl 1 rfl) ?_
      refine gh_callV C V hl.1 m_Ru_askTwo l_Ru_131 (c_Ru_askTwo l E _ f ρ Z q0 N cb bg φ b s0 e0 n u k v T F pt w9 it el gv pl va X Y fi se hR hφb hFb hx9 IH (by omega)) rfl h1R gc_Ru ⟨by first | decide | omega | (dsimp only; omega), by first | decide | omega | (dsimp only; omega)⟩ ⟨by first | decide | omega | (dsimp only; omega), by first | decide | omega | (dsimp only; omega)⟩ (Nat.le_of_ble_eq_true rfl) rfl d_Ru_ask_186 (fun r g9 H locs hp V => ?_)
      have hp9 := hp
      obtain ⟨φ1, b1, -, -, -, hP9, -⟩ := hp9
      obtain ⟨z9, rfl⟩ := hP9.ret
      refine W.eq (g2 := F0 m 189 ls [.int z9]) rfl ?_
      refine gh_reti hAe C V hr hlocks d_Ru_ask_189 (by first | decide | omega | (dsimp only; omega)) (by first | decide | omega | (dsimp only; omega)) ?_
      exact hp
    · rw [hk]
      refine lv_tableIn (off := 167) (tgt := 184) hx hb d_Ru_ask_17 (by decide) (by decide) (by decide) (by decide) ?_
      refine lv_aload_n hx hb d_Ru_ask_184 rfl (lv_at hl 0 rfl) ?_
      refine lv_aload_n hx hb d_Ru_ask_185 rfl (lv_at hl 1 rfl) ?_
      refine gh_callV C V hl.1 m_Ru_askTwo l_Ru_131 (c_Ru_askTwo l E _ f ρ Z q0 N cb bg φ b s0 e0 n u k v T F pt w9 it el gv pl va X Y fi se hR hφb hFb hx9 IH (by omega)) rfl h1R gc_Ru ⟨by first | decide | omega | (dsimp only; omega), by first | decide | omega | (dsimp only; omega)⟩ ⟨by first | decide | omega | (dsimp only; omega), by first | decide | omega | (dsimp only; omega)⟩ (Nat.le_of_ble_eq_true rfl) rfl d_Ru_ask_186 (fun r g9 H locs hp V => ?_)
      have hp9 := hp
      obtain ⟨φ1, b1, -, -, -, hP9, -⟩ := hp9
      obtain ⟨z9, rfl⟩ := hP9.ret
      refine W.eq (g2 := F0 m 189 ls [.int z9]) rfl ?_
      refine gh_reti hAe C V hr hlocks d_Ru_ask_189 (by first | decide | omega | (dsimp only; omega)) (by first | decide | omega | (dsimp only; omega)) ?_
      exact hp
    · rw [hk]
      refine lv_tableIn (off := 167) (tgt := 184) hx hb d_Ru_ask_17 (by decide) (by decide) (by decide) (by decide) ?_
      refine lv_aload_n hx hb d_Ru_ask_184 rfl (lv_at hl 0 rfl) ?_
      refine lv_aload_n hx hb d_Ru_ask_185 rfl (lv_at hl 1 rfl) ?_
      refine gh_callV C V hl.1 m_Ru_askTwo l_Ru_131 (c_Ru_askTwo l E _ f ρ Z q0 N cb bg φ b s0 e0 n u k v T F pt w9 it el gv pl va X Y fi se hR hφb hFb hx9 IH (by omega)) rfl h1R gc_Ru ⟨by first | decide | omega | (dsimp only; omega), by first | decide | omega | (dsimp only; omega)⟩ ⟨by first | decide | omega | (dsimp only; omega), by first | decide | omega | (dsimp only; omega)⟩ (Nat.le_of_ble_eq_true rfl) rfl d_Ru_ask_186 (fun r g9 H locs hp V => ?_)
      have hp9 := hp
      obtain ⟨φ1, b1, -, -, -, hP9, -⟩ := hp9
      obtain ⟨z9, rfl⟩ := hP9.ret
      refine W.eq (g2 := F0 m 189 ls [.int z9]) rfl ?_
      refine gh_reti hAe C V hr hlocks d_Ru_ask_189 (by first | decide | omega | (dsimp only; omega)) (by first | decide | omega | (dsimp only; omega)) ?_
      exact hp
    · rw [hk]
      refine lv_tableIn (off := 167) (tgt := 184) hx hb d_Ru_ask_17 (by decide) (by decide) (by decide) (by decide) ?_
      refine lv_aload_n hx hb d_Ru_ask_184 rfl (lv_at hl 0 rfl) ?_
      refine lv_aload_n hx hb d_Ru_ask_185 rfl (lv_at hl 1 rfl) ?_
      refine gh_callV C V hl.1 m_Ru_askTwo l_Ru_131 (c_Ru_askTwo l E _ f ρ Z q0 N cb bg φ b s0 e0 n u k v T F pt w9 it el gv pl va X Y fi se hR hφb hFb hx9 IH (by omega)) rfl h1R gc_Ru ⟨by first | decide | omega | (dsimp only; omega), by first | decide | omega | (dsimp only; omega)⟩ ⟨by first | decide | omega | (dsimp only; omega), by first | decide | omega | (dsimp only; omega)⟩ (Nat.le_of_ble_eq_true rfl) rfl d_Ru_ask_186 (fun r g9 H locs hp V => ?_)
      have hp9 := hp
      obtain ⟨φ1, b1, -, -, -, hP9, -⟩ := hp9
      obtain ⟨z9, rfl⟩ := hP9.ret
      refine W.eq (g2 := F0 m 189 ls [.int z9]) rfl ?_
      refine gh_reti hAe C V hr hlocks d_Ru_ask_189 (by first | decide | omega | (dsimp only; omega)) (by first | decide | omega | (dsimp only; omega)) ?_
      exact hp
    · rw [hk]
      refine lv_tableIn (off := 167) (tgt := 184) hx hb d_Ru_ask_17 (by decide) (by decide) (by decide) (by decide) ?_
      refine lv_aload_n hx hb d_Ru_ask_184 rfl (lv_at hl 0 rfl) ?_
      refine lv_aload_n hx hb d_Ru_ask_185 rfl (lv_at hl 1 rfl) ?_
      refine gh_callV C V hl.1 m_Ru_askTwo l_Ru_131 (c_Ru_askTwo l E _ f ρ Z q0 N cb bg φ b s0 e0 n u k v T F pt w9 it el gv pl va X Y fi se hR hφb hFb hx9 IH (by omega)) rfl h1R gc_Ru ⟨by first | decide | omega | (dsimp only; omega), by first | decide | omega | (dsimp only; omega)⟩ ⟨by first | decide | omega | (dsimp only; omega), by first | decide | omega | (dsimp only; omega)⟩ (Nat.le_of_ble_eq_true rfl) rfl d_Ru_ask_186 (fun r g9 H locs hp V => ?_)
      have hp9 := hp
      obtain ⟨φ1, b1, -, -, -, hP9, -⟩ := hp9
      obtain ⟨z9, rfl⟩ := hP9.ret
      refine W.eq (g2 := F0 m 189 ls [.int z9]) rfl ?_
      refine gh_reti hAe C V hr hlocks d_Ru_ask_189 (by first | decide | omega | (dsimp only; omega)) (by first | decide | omega | (dsimp only; omega)) ?_
      exact hp
