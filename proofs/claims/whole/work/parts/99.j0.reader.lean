/-! Reader: its cells; sign, refused, skipBlanks, passes, isDigit, readWord. Printed by wip/whole/gen_re.py. -/
/-- less was used than is said -/
theorem gw_le {p : Program} {l : Launch} {e : Env} {R : Room} {s : State} {m : MethodId} {args : Array Value} {below : List Frame} {meth : Method} {c : Code} {H : Heap} {locs : List Loc} {k1 k2 n1 n2 : Nat} {Q : State → Prop} {g : JFrame} (h1 : k1 ≤ k2) (h2 : n1 ≤ n2) (h : W p l e R s m args below meth c H locs k2 n2 Q g) : W p l e R s m args below meth c H locs k1 n1 Q g := fun T hT X => h T hT (stand_widen X h1 h2)
/-- what a reading never changes -/
def re_K (E : gh_E) (ρ Z : Nat → Nat) (tx : Nat → Nat) (n : Nat) (f : gh_F) : Prop := rZ ρ Z ∧ ρ (Z 208) = 0 ∧ (∃ gG : Nat → Option Nat, f (Z 208) = some (.inl (E.2.2.1 5, 8, .inr (.inr (.inr (.inr gG))))) ∧ ∀ j, j < 8 → gG j = some (Z (100 + 3 * j))) ∧ vs_C E (rP ρ) f (Z 200) (Z 201) (Z 202) (Z 203) (Z 204) (Z 205) (Z 3) ∧ (∀ q, f q = none → ρ q = 0) ∧ (∃ h : Nat → Int32, f (Z 7) = some (.inl (E.2.2.1 2, 120, .inl h)) ∧ ∀ j, j < n → h j = nI (tx j)) ∧ n ≤ 120 ∧ ∀ j, j < n → 32 ≤ tx j ∧ tx j ≤ 126
def re_G (E : gh_E) (ρ Z : Nat → Nat) (f : gh_F) : Prop := ∀ d, d < 8 → ga_0 E (rP ρ) f (Z (100 + 3 * d)) (Z (101 + 3 * d)) (Z (102 + 3 * d))
/-- the reader stands at p -/
def re_A (E : gh_E) (ρ Z : Nat → Nat) (tx : Nat → Nat) (n : Nat) (f : gh_F) (pl : Nat) (bd : Int32) : Prop := f (Z 8) = some (.inr (3, [.ref (Z 200), .ref (Z 208), .ref (Z 9), .ref (Z 7), .int (nI n), .int (nI pl), .int bd])) ∧ re_K E ρ Z tx n f ∧ (∃ h : Nat → Int32, f (Z 9) = some (.inl (E.2.2.1 2, 24, .inl h))) ∧ re_G E ρ Z f
theorem re_K.keep {E : gh_E} {ρ Z tx : Nat → Nat} {n : Nat} {f g : gh_F} {M : Nat → Prop} (h : re_K E ρ Z tx n f) (hfr : gh_fr f g M) (hM : ∀ b, M b → ρ b ≠ 0 ∧ ρ b ≠ 7) : re_K E ρ Z tx n g := by
  obtain ⟨hz, h0, ⟨gG, h1, h2⟩, h3, h4, ⟨hh, h5, h6⟩, h7⟩ := h
  exact ⟨hz, h0, ⟨gG, hfr.at h1 (fun z => (hM _ z).1 h0), h2⟩, h3.keep hfr (fun b hb => (hM b hb).1), fun q hq => h4 q (hfr.non hq), ⟨hh, hfr.at h5 (fun z => (hM _ z).2 (hz 7 (by unfold rU; omega))), h6⟩, h7⟩
theorem re_G.keep {E : gh_E} {ρ Z : Nat → Nat} {f g : gh_F} {M : Nat → Prop} (h : re_G E ρ Z f) (hz : rZ ρ Z) (hfr : gh_fr f g M) (hM : ∀ b, M b → ¬ (100 ≤ ρ b ∧ ρ b < 124)) : re_G E ρ Z g := by
  intro d hd
  have k : ∀ r, 100 ≤ r → r < 124 → ¬ M (Z r) := fun r a b z => by
    have e : ρ (Z r) = r := hz r (by unfold rU; omega)
    exact hM _ z (by rw [e]; exact ⟨a, b⟩)
  exact (h d hd).keep hfr (k _ (by omega) (by omega)) (k _ (by omega) (by omega)) (k _ (by omega) (by omega))
/-- what a reading at depth d may write -/
def re_M (ρ : Nat → Nat) (d : Nat) : Nat → Prop := fun b => ρ b = 8 ∨ ρ b = 9 ∨ (100 + 3 * d ≤ ρ b ∧ ρ b < 124)
theorem re_M.P {ρ : Nat → Nat} {d : Nat} : ∀ b, re_M ρ d b → ¬ rP ρ b := fun b h z => by
  have z : ρ b = 0 := z
  rcases h with h | h | h <;> omega
theorem re_M.up {ρ : Nat → Nat} {d e : Nat} (h : d ≤ e) : ∀ b, re_M ρ e b → re_M ρ d b := fun b hb => by
  rcases hb with hb | hb | hb
  · exact Or.inl hb
  · exact Or.inr (Or.inl hb)
  · exact Or.inr (Or.inr (by omega))
theorem re_tr {ρ : Nat → Nat} {f g k : gh_F} {d e : Nat} (h : gh_fr f g (re_M ρ d)) (h2 : gh_fr g k (re_M ρ e)) (hd : d ≤ e) : gh_fr f k (re_M ρ d) := h.tr h2 (fun b _ _ z => re_M.up hd b z)
theorem re_A.own {E : gh_E} {ρ Z tx : Nat → Nat} {n p1 p2 : Nat} {f : gh_F} {b1 b2 : Int32} (h : re_A E ρ Z tx n f p1 b1) : re_A E ρ Z tx n (gh_u f (Z 8) (.inr (3, [.ref (Z 200), .ref (Z 208), .ref (Z 9), .ref (Z 7), .int (nI n), .int (nI p2), .int b2]))) p2 b2 ∧ gh_fr f (gh_u f (Z 8) (.inr (3, [.ref (Z 200), .ref (Z 208), .ref (Z 9), .ref (Z 7), .int (nI n), .int (nI p2), .int b2]))) (re_M ρ 8) := by
  obtain ⟨h1, h2, ⟨hh, h3⟩, h4⟩ := h
  have hz := h2.1
  have e8 : ρ (Z 8) = 8 := hz 8 (by unfold rU; omega)
  have hfr : gh_fr f (gh_u f (Z 8) (.inr (3, [.ref (Z 200), .ref (Z 208), .ref (Z 9), .ref (Z 7), .int (nI n), .int (nI p2), .int b2]))) (fun b => ρ b = 8) := gh_fr.rf.put (Or.inl e8)
  exact ⟨⟨gh_us, h2.keep hfr (fun b hb => by have hb : ρ b = 8 := hb; omega), ⟨hh, hfr.at h3 (fun z => by have z : ρ (Z 9) = 8 := z; have := hz 9 (by unfold rU; omega); omega)⟩, h4.keep hz hfr (fun b hb => by have hb : ρ b = 8 := hb; omega)⟩, hfr.wide (fun b hb => Or.inl hb)⟩
theorem re_A.let {E : gh_E} {ρ Z tx : Nat → Nat} {n p1 : Nat} {f : gh_F} {b1 : Int32} {hh : Nat → Int32} (h : re_A E ρ Z tx n f p1 b1) : re_A E ρ Z tx n (gh_u f (Z 9) (.inl (E.2.2.1 2, 24, .inl hh))) p1 b1 ∧ gh_fr f (gh_u f (Z 9) (.inl (E.2.2.1 2, 24, .inl hh))) (re_M ρ 8) := by
  obtain ⟨h1, h2, h3, h4⟩ := h
  have hz := h2.1
  have e9 : ρ (Z 9) = 9 := hz 9 (by unfold rU; omega)
  have hfr : gh_fr f (gh_u f (Z 9) (.inl (E.2.2.1 2, 24, .inl hh))) (fun b => ρ b = 9) := gh_fr.rf.put (Or.inl e9)
  exact ⟨⟨hfr.at h1 (fun z => by have z : ρ (Z 8) = 9 := z; have := hz 8 (by unfold rU; omega); omega), h2.keep hfr (fun b hb => by have hb : ρ b = 9 := hb; omega), ⟨hh, gh_us⟩, h4.keep hz hfr (fun b hb => by have hb : ρ b = 9 := hb; omega)⟩, hfr.wide (fun b hb => Or.inr (Or.inl hb))⟩
theorem re_A.new {E : gh_E} {ρ Z tx : Nat → Nat} {n p1 : Nat} {f g : gh_F} {b1 : Int32} (h : re_A E ρ Z tx n f p1 b1) (hfr : gh_fr f g (fun b => b ∈ ([] : List Nat))) : re_A E ρ Z tx n g p1 b1 := by
  obtain ⟨h1, h2, ⟨hh, h3⟩, h4⟩ := h
  exact ⟨hfr.at h1 (by simp), h2.keep hfr (fun b hb => absurd hb (by simp)), ⟨hh, hfr.at h3 (by simp)⟩, h4.keep h2.1 hfr (fun b hb => absurd hb (by simp))⟩
theorem re_ga {ρ Z : Nat → Nat} (hz : rZ ρ Z) {d : Nat} (hd : d < 8) : ∀ b, ga_M (Z (100 + 3 * d)) (Z (101 + 3 * d)) (Z (102 + 3 * d)) b → 100 + 3 * d ≤ ρ b ∧ ρ b ≤ 102 + 3 * d := by
  intro b hb
  have e0 := hz (100 + 3 * d) (by unfold rU; omega)
  have e1 := hz (101 + 3 * d) (by unfold rU; omega)
  have e2 := hz (102 + 3 * d) (by unfold rU; omega)
  rcases List.mem_cons.mp hb with rfl | hb
  · omega
  · rcases List.mem_cons.mp hb with rfl | hb
    · omega
    · rw [List.mem_singleton.mp hb]; omega
theorem re_A.ga {E : gh_E} {ρ Z tx : Nat → Nat} {n p1 d0 : Nat} {f g : gh_F} {b1 : Int32} (h : re_A E ρ Z tx n f p1 b1) (hd0 : d0 < 8) (hfr : gh_fr f g (ga_M (Z (100 + 3 * d0)) (Z (101 + 3 * d0)) (Z (102 + 3 * d0)))) (hg : ga_0 E (rP ρ) g (Z (100 + 3 * d0)) (Z (101 + 3 * d0)) (Z (102 + 3 * d0))) : re_A E ρ Z tx n g p1 b1 ∧ gh_fr f g (re_M ρ d0) := by
  obtain ⟨h1, h2, ⟨hh, h3⟩, h4⟩ := h
  have hz := h2.1
  have hm := re_ga hz hd0
  have no : ∀ r, rU r → (r < 100 + 3 * d0 ∨ 102 + 3 * d0 < r) → ¬ ga_M (Z (100 + 3 * d0)) (Z (101 + 3 * d0)) (Z (102 + 3 * d0)) (Z r) := fun r hr hc z => by
    have := hm _ z
    have e := hz r hr
    omega
  refine ⟨⟨hfr.at h1 (no 8 (by unfold rU; omega) (by omega)), h2.keep hfr (fun b hb => by have := hm b hb; omega), ⟨hh, hfr.at h3 (no 9 (by unfold rU; omega) (by omega))⟩, fun d hd => ?_⟩, hfr.wide (fun b hb => Or.inr (Or.inr (by have := hm b hb; omega)))⟩
  by_cases e : d = d0
  · subst e; exact hg
  · exact (h4 d hd).keep hfr (no _ (by unfold rU; omega) (by omega)) (no _ (by unfold rU; omega) (by omega)) (no _ (by unfold rU; omega) (by omega))
theorem re_A.ch {E : gh_E} {ρ Z tx : Nat → Nat} {n p1 : Nat} {f : gh_F} {b1 : Int32} (h : re_A E ρ Z tx n f p1 b1) (q : Nat) : sg tx n q < 127 ∧ (q < n → sg tx n q = tx q ∧ 32 ≤ tx q) := by
  have hh := h.2.1.2.2.2.2.2.2.2
  unfold sg
  by_cases hp : q < n
  · rw [if_pos hp]; have := hh q hp; exact ⟨by omega, fun _ => ⟨rfl, this.1⟩⟩
  · rw [if_neg hp]; exact ⟨by decide, fun z => absurd z hp⟩
theorem re_A.n {E : gh_E} {ρ Z tx : Nat → Nat} {n p1 : Nat} {f : gh_F} {b1 : Int32} (h : re_A E ρ Z tx n f p1 b1) : n ≤ 120 := h.2.1.2.2.2.2.2.2.1
/-- what a method that reads gives: null at a bad place, or a value -/
def re_O (E : gh_E) (ρ Z tx : Nat → Nat) (n : Nat) (g : gh_F) (bd : Int32) (R : Nat × Option vt) (r : Option Value) : Prop := match R.2 with
  | none => r = some .null ∧ re_A E ρ Z tx n g R.1 (nI R.1)
  | some X => (∃ v, r = some (.ref v) ∧ cw E (rP ρ) g v X) ∧ re_A E ρ Z tx n g R.1 bd
theorem d_Re_sign_0 : decode b_Re_sign 0 = .ok (.aload_n 0, 1) := by decide +kernel
theorem d_Re_sign_1 : decode b_Re_sign 1 = .ok (.getfield 42, 3) := by decide +kernel
theorem d_Re_sign_4 : decode b_Re_sign 4 = .ok (.aload_n 0, 1) := by decide +kernel
theorem d_Re_sign_5 : decode b_Re_sign 5 = .ok (.getfield 39, 3) := by decide +kernel
theorem d_Re_sign_8 : decode b_Re_sign 8 = .ok (.if_icmp .ge 15, 3) := by decide +kernel
theorem d_Re_sign_11 : decode b_Re_sign 11 = .ok (.aload_n 0, 1) := by decide +kernel
theorem d_Re_sign_12 : decode b_Re_sign 12 = .ok (.getfield 30, 3) := by decide +kernel
theorem d_Re_sign_15 : decode b_Re_sign 15 = .ok (.aload_n 0, 1) := by decide +kernel
theorem d_Re_sign_16 : decode b_Re_sign 16 = .ok (.getfield 42, 3) := by decide +kernel
theorem d_Re_sign_19 : decode b_Re_sign 19 = .ok (.caload, 1) := by decide +kernel
theorem d_Re_sign_20 : decode b_Re_sign 20 = .ok (.goto 4, 3) := by decide +kernel
theorem d_Re_sign_23 : decode b_Re_sign 23 = .ok (.iconst 0, 1) := by decide +kernel
theorem d_Re_sign_24 : decode b_Re_sign 24 = .ok (.ireturn, 1) := by decide +kernel
set_option maxHeartbeats 4000000 in
set_option maxRecDepth 100000 in
theorem c_Re_sign (l : Launch) (E : gh_E) (sz : Nat) (f : gh_F) (ρ Z tx : Nat → Nat) (n pl : Nat) (bd : Int32) (hA : re_A E ρ Z tx n f pl bd) (hp : pl ≤ n) : gh_M l y_Re_sign b_Re_sign 1 (some .char) E sz [.ref (Z 8)] f { frames := 1, cells := 0, slots := 0, locals := 20 } (fun r g => r = some (.int (nI (sg tx n pl))) ∧ g = f) := by
  refine gh_open (by decide) (Nat.le_of_ble_eq_true rfl) ?_
  intro p e s m args below meth c A ls hAe C V hr hlocks hname hl
  have hx := C.1
  have hb := C.2.1
  have hl : lv_has ls 1 [(0, .ref (Z 8))] := hl
  have h120 := hA.n
  obtain ⟨ht1, h7_1, htx1⟩ := hA.2.1.2.2.2.2.2.1
  by_cases hpn : pl < n
  · refine lv_aload_n hx hb d_Re_sign_0 rfl (lv_at hl 0 rfl) ?_
    refine gh_get C V hA.1 gc_Re gi_Re 5 (by decide) f_Re_42 rfl rfl d_Re_sign_1 ?_
    refine lv_aload_n hx hb d_Re_sign_4 rfl (lv_at hl 0 rfl) ?_
    refine gh_get C V hA.1 gc_Re gi_Re 4 (by decide) f_Re_39 rfl rfl d_Re_sign_5 ?_
    refine lv_icmp_ge (tgt := 23) hx hb d_Re_sign_8 (by decide) (fun c1 => absurd c1 (nI_ge hpn (by omega))) (fun c1 => ?_)
    refine lv_aload_n hx hb d_Re_sign_11 rfl (lv_at hl 0 rfl) ?_
    refine gh_get C V hA.1 gc_Re gi_Re 3 (by decide) f_Re_30 rfl rfl d_Re_sign_12 ?_
    refine lv_aload_n hx hb d_Re_sign_15 rfl (lv_at hl 0 rfl) ?_
    refine gh_get C V hA.1 gc_Re gi_Re 5 (by decide) f_Re_42 rfl rfl d_Re_sign_16 ?_
    refine gn_cald (i := pl) C V h7_1 (by omega) (by omega) d_Re_sign_19 ?_
    refine lv_goto (tgt := 24) hx hb d_Re_sign_20 (by decide) ?_
    rw [htx1 pl hpn, show tx pl = sg tx n pl from (by unfold sg; rw [if_pos hpn])]
    refine gh_retz hAe C V hr (show chr _ from ⟨_, (by have := (hA.ch pl).1; omega), rfl⟩).nar hlocks d_Re_sign_24 (by first | decide | omega | (dsimp only; omega)) (by first | decide | omega | (dsimp only; omega)) ?_
    exact ⟨rfl, rfl⟩
  · have hz : sg tx n pl = 0 := by unfold sg; rw [if_neg hpn]
    rw [hz]
    refine lv_aload_n hx hb d_Re_sign_0 rfl (lv_at hl 0 rfl) ?_
    refine gh_get C V hA.1 gc_Re gi_Re 5 (by decide) f_Re_42 rfl rfl d_Re_sign_1 ?_
    refine lv_aload_n hx hb d_Re_sign_4 rfl (lv_at hl 0 rfl) ?_
    refine gh_get C V hA.1 gc_Re gi_Re 4 (by decide) f_Re_39 rfl rfl d_Re_sign_5 ?_
    refine lv_icmp_ge (tgt := 23) hx hb d_Re_sign_8 (by decide) (fun c2 => ?_) (fun c2 => absurd (nI_le (by omega) (by omega)) c2)
    refine lv_iconst (v := 0) hx hb d_Re_sign_23 (by decide) ?_
    refine gh_retz hAe C V hr rfl hlocks d_Re_sign_24 (by first | decide | omega | (dsimp only; omega)) (by first | decide | omega | (dsimp only; omega)) ?_
    exact ⟨rfl, rfl⟩
theorem d_Re_refused_0 : decode b_Re_refused 0 = .ok (.aload_n 0, 1) := by decide +kernel
theorem d_Re_refused_1 : decode b_Re_refused 1 = .ok (.aload_n 0, 1) := by decide +kernel
theorem d_Re_refused_2 : decode b_Re_refused 2 = .ok (.getfield 42, 3) := by decide +kernel
theorem d_Re_refused_5 : decode b_Re_refused 5 = .ok (.putfield 26, 3) := by decide +kernel
theorem d_Re_refused_8 : decode b_Re_refused 8 = .ok (.aconst_null, 1) := by decide +kernel
theorem d_Re_refused_9 : decode b_Re_refused 9 = .ok (.areturn, 1) := by decide +kernel
set_option maxHeartbeats 4000000 in
set_option maxRecDepth 100000 in
theorem c_Re_refused (l : Launch) (E : gh_E) (sz : Nat) (f : gh_F) (ρ Z tx : Nat → Nat) (n pl : Nat) (bd : Int32) (hA : re_A E ρ Z tx n f pl bd) : gh_M l y_Re_refused b_Re_refused 1 (some (.object "QueryMachine$Value")) E sz [.ref (Z 8)] f { frames := 1, cells := 0, slots := 0, locals := 20 } (fun r g => r = some .null ∧ re_A E ρ Z tx n g pl (nI pl) ∧ gh_fr f g (re_M ρ 8)) := by
  refine gh_open (by decide) (Nat.le_of_ble_eq_true rfl) ?_
  intro p e s m args below meth c A ls hAe C V hr hlocks hname hl
  have hx := C.1
  have hb := C.2.1
  have hl : lv_has ls 1 [(0, .ref (Z 8))] := hl
  refine lv_aload_n hx hb d_Re_refused_0 rfl (lv_at hl 0 rfl) ?_
  refine lv_aload_n hx hb d_Re_refused_1 rfl (lv_at hl 0 rfl) ?_
  refine gh_get C V hA.1 gc_Re gi_Re 5 (by decide) f_Re_42 rfl rfl d_Re_refused_2 ?_
  refine gh_put C V hA.1 gc_Re gi_Re ty_Re nm_Re 6 (by decide) f_Re_26 rfl rfl rfl (Nat.le_of_ble_eq_true rfl) d_Re_refused_5 (fun H locs V1 => ?_)
  obtain ⟨fz, hfz⟩ : ∃ z9 : gh_F, z9 = gh_u f (Z 8) (.inr (3, [.ref (Z 200), .ref (Z 208), .ref (Z 9), .ref (Z 7), .int (nI n), .int (nI pl), .int (nI pl)])) := ⟨_, rfl⟩
  have V : gh_V E A fz s H locs := by rw [hfz]; exact V1
  have hA2 : re_A E ρ Z tx n fz pl (nI pl) ∧ gh_fr f fz (re_M ρ 8) := by rw [hfz]; exact hA.own
  refine lv_null hx hb d_Re_refused_8 ?_
  refine gh_reta hAe C V hr (by first | exact Or.inl ⟨_, rfl⟩ | exact Or.inr ⟨_, rfl⟩) (by first | exact Or.inl rfl | exact Or.inr ⟨_, rfl⟩) hlocks d_Re_refused_9 (by first | decide | omega | (dsimp only; omega)) (by first | decide | omega | (dsimp only; omega)) ?_
  exact ⟨rfl, hA2⟩
theorem d_Re_skipBlanks_0 : decode b_Re_skipBlanks 0 = .ok (.aload_n 0, 1) := by decide +kernel
theorem d_Re_skipBlanks_1 : decode b_Re_skipBlanks 1 = .ok (.getfield 42, 3) := by decide +kernel
theorem d_Re_skipBlanks_4 : decode b_Re_skipBlanks 4 = .ok (.aload_n 0, 1) := by decide +kernel
theorem d_Re_skipBlanks_5 : decode b_Re_skipBlanks 5 = .ok (.getfield 39, 3) := by decide +kernel
theorem d_Re_skipBlanks_8 : decode b_Re_skipBlanks 8 = .ok (.if_icmp .ge 30, 3) := by decide +kernel
theorem d_Re_skipBlanks_11 : decode b_Re_skipBlanks 11 = .ok (.aload_n 0, 1) := by decide +kernel
theorem d_Re_skipBlanks_12 : decode b_Re_skipBlanks 12 = .ok (.getfield 30, 3) := by decide +kernel
theorem d_Re_skipBlanks_15 : decode b_Re_skipBlanks 15 = .ok (.aload_n 0, 1) := by decide +kernel
theorem d_Re_skipBlanks_16 : decode b_Re_skipBlanks 16 = .ok (.getfield 42, 3) := by decide +kernel
theorem d_Re_skipBlanks_19 : decode b_Re_skipBlanks 19 = .ok (.caload, 1) := by decide +kernel
theorem d_Re_skipBlanks_20 : decode b_Re_skipBlanks 20 = .ok (.bipush 32, 2) := by decide +kernel
theorem d_Re_skipBlanks_22 : decode b_Re_skipBlanks 22 = .ok (.if_icmp .ne 16, 3) := by decide +kernel
theorem d_Re_skipBlanks_25 : decode b_Re_skipBlanks 25 = .ok (.aload_n 0, 1) := by decide +kernel
theorem d_Re_skipBlanks_26 : decode b_Re_skipBlanks 26 = .ok (.dup, 1) := by decide +kernel
theorem d_Re_skipBlanks_27 : decode b_Re_skipBlanks 27 = .ok (.getfield 42, 3) := by decide +kernel
theorem d_Re_skipBlanks_30 : decode b_Re_skipBlanks 30 = .ok (.iconst 1, 1) := by decide +kernel
theorem d_Re_skipBlanks_31 : decode b_Re_skipBlanks 31 = .ok (.iadd, 1) := by decide +kernel
theorem d_Re_skipBlanks_32 : decode b_Re_skipBlanks 32 = .ok (.putfield 42, 3) := by decide +kernel
theorem d_Re_skipBlanks_35 : decode b_Re_skipBlanks 35 = .ok (.goto (-35), 3) := by decide +kernel
theorem d_Re_skipBlanks_38 : decode b_Re_skipBlanks 38 = .ok (.return_, 1) := by decide +kernel
set_option maxHeartbeats 4000000 in
set_option maxRecDepth 100000 in
theorem c_Re_skipBlanks (l : Launch) (E : gh_E) (sz : Nat) (f : gh_F) (ρ Z tx : Nat → Nat) (n pl : Nat) (bd : Int32) (hA : re_A E ρ Z tx n f pl bd) (hp : pl ≤ n) : gh_M l y_Re_skipBlanks b_Re_skipBlanks 1 none E sz [.ref (Z 8)] f { frames := 1, cells := 0, slots := 0, locals := 20 } (fun r g => r = none ∧ re_A E ρ Z tx n g (rbl tx n pl) bd ∧ gh_fr f g (re_M ρ 8)) := by
  refine gh_open (by decide) (Nat.le_of_ble_eq_true rfl) ?_
  intro p e s m args below meth c A ls hAe C V hr hlocks hname hl
  have hx := C.1
  have hb := C.2.1
  have hl : lv_has ls 1 [(0, .ref (Z 8))] := hl
  have h120 := hA.n
  have loop : ∀ (m9 p9 : Nat) (f1 : gh_F) (H : Heap) (locs : List Loc) (ls : Array Slot), m9 = n - p9 → p9 ≤ n → rb tx n m9 p9 = rbl tx n pl → re_A E ρ Z tx n f1 p9 bd → gh_fr f f1 (re_M ρ 8) → gh_V E A f1 s H locs → lv_has ls 1 [(0, .ref (Z 8))] → W p l e { frames := 1, cells := 0, slots := 0, locals := 20 } s m args below meth c H locs 0 0 (MQ below (gh_Q E f (fun r g => r = none ∧ re_A E ρ Z tx n g (rbl tx n pl) bd ∧ gh_fr f g (re_M ρ 8))) args s 0 0 A) (F0 m 0 ls []) := by
    intro m9
    induction m9 with
    | zero =>
      intro p9 f1 H locs ls hm hp9 hrb hA hfr V hl
      refine lv_aload_n hx hb d_Re_skipBlanks_0 rfl (lv_at hl 0 rfl) ?_
      refine gh_get C V hA.1 gc_Re gi_Re 5 (by decide) f_Re_42 rfl rfl d_Re_skipBlanks_1 ?_
      refine lv_aload_n hx hb d_Re_skipBlanks_4 rfl (lv_at hl 0 rfl) ?_
      refine gh_get C V hA.1 gc_Re gi_Re 4 (by decide) f_Re_39 rfl rfl d_Re_skipBlanks_5 ?_
      refine lv_icmp_ge (tgt := 38) hx hb d_Re_skipBlanks_8 (by decide) (fun c1 => ?_) (fun c1 => absurd (nI_le (by omega) (by omega)) c1)
      refine gh_retv hAe C V hr hlocks d_Re_skipBlanks_38 (by first | decide | omega | (dsimp only; omega)) (by first | decide | omega | (dsimp only; omega)) ?_
      exact ⟨rfl, by rw [← hrb]; exact hA, hfr⟩
    | succ m9 ih =>
      intro p9 f1 H locs ls hm hp9 hrb hA hfr V hl
      obtain ⟨ht1, h7_1, htx1⟩ := hA.2.1.2.2.2.2.2.1
      have hpn : p9 < n := by omega
      have hch := (hA.ch p9)
      have hch2 := hch.2 hpn
      by_cases h32 : sg tx n p9 = 32
      · refine lv_aload_n hx hb d_Re_skipBlanks_0 rfl (lv_at hl 0 rfl) ?_
        refine gh_get C V hA.1 gc_Re gi_Re 5 (by decide) f_Re_42 rfl rfl d_Re_skipBlanks_1 ?_
        refine lv_aload_n hx hb d_Re_skipBlanks_4 rfl (lv_at hl 0 rfl) ?_
        refine gh_get C V hA.1 gc_Re gi_Re 4 (by decide) f_Re_39 rfl rfl d_Re_skipBlanks_5 ?_
        refine lv_icmp_ge (tgt := 38) hx hb d_Re_skipBlanks_8 (by decide) (fun c2 => absurd c2 (nI_ge hpn (by omega))) (fun c2 => ?_)
        refine lv_aload_n hx hb d_Re_skipBlanks_11 rfl (lv_at hl 0 rfl) ?_
        refine gh_get C V hA.1 gc_Re gi_Re 3 (by decide) f_Re_30 rfl rfl d_Re_skipBlanks_12 ?_
        refine lv_aload_n hx hb d_Re_skipBlanks_15 rfl (lv_at hl 0 rfl) ?_
        refine gh_get C V hA.1 gc_Re gi_Re 5 (by decide) f_Re_42 rfl rfl d_Re_skipBlanks_16 ?_
        refine gn_cald (i := p9) C V h7_1 (by omega) (by omega) d_Re_skipBlanks_19 ?_
        rw [htx1 p9 hpn]
        refine lv_bipush (v := 32) hx hb d_Re_skipBlanks_20 (by decide) ?_
        refine lv_icmp_ne (tgt := 38) hx hb d_Re_skipBlanks_22 (by decide) (fun c3 => absurd (by rw [← hch2.1, h32]; rfl) c3) (fun c3 => ?_)
        refine lv_aload_n hx hb d_Re_skipBlanks_25 rfl (lv_at hl 0 rfl) ?_
        refine lv_dup hx hb d_Re_skipBlanks_26 rfl ?_
        refine gh_get C V hA.1 gc_Re gi_Re 5 (by decide) f_Re_42 rfl rfl d_Re_skipBlanks_27 ?_
        refine lv_iconst (v := 1) hx hb d_Re_skipBlanks_30 (by decide) ?_
        refine gn_iadd (a := p9) (b := 1) hx hb d_Re_skipBlanks_31 ?_
        refine gh_put C V hA.1 gc_Re gi_Re ty_Re nm_Re 5 (by decide) f_Re_42 rfl rfl rfl (Nat.le_of_ble_eq_true rfl) d_Re_skipBlanks_32 (fun H locs V1 => ?_)
        obtain ⟨fa2, hffa2⟩ : ∃ z9 : gh_F, z9 = gh_u f1 (Z 8) (.inr (3, [.ref (Z 200), .ref (Z 208), .ref (Z 9), .ref (Z 7), .int (nI n), .int (nI (p9 + 1)), .int bd])) := ⟨_, rfl⟩
        have V : gh_V E A fa2 s H locs := by rw [hffa2]; exact V1
        have hA2 : re_A E ρ Z tx n fa2 (p9 + 1) bd ∧ gh_fr f1 fa2 (re_M ρ 8) := by rw [hffa2]; exact hA.own
        have hA := hA2.1
        have hfr := re_tr hfr hA2.2 (by omega)
        refine lv_goto (tgt := 0) hx hb d_Re_skipBlanks_35 (by decide) ?_
        exact ih (p9 + 1) _ _ _ ls (by omega) (by omega) (by rw [← hrb]; show _ = (if sg tx n p9 = 32 then _ else _); rw [if_pos h32]) hA hfr V hl
      · refine lv_aload_n hx hb d_Re_skipBlanks_0 rfl (lv_at hl 0 rfl) ?_
        refine gh_get C V hA.1 gc_Re gi_Re 5 (by decide) f_Re_42 rfl rfl d_Re_skipBlanks_1 ?_
        refine lv_aload_n hx hb d_Re_skipBlanks_4 rfl (lv_at hl 0 rfl) ?_
        refine gh_get C V hA.1 gc_Re gi_Re 4 (by decide) f_Re_39 rfl rfl d_Re_skipBlanks_5 ?_
        refine lv_icmp_ge (tgt := 38) hx hb d_Re_skipBlanks_8 (by decide) (fun c4 => absurd c4 (nI_ge hpn (by omega))) (fun c4 => ?_)
        refine lv_aload_n hx hb d_Re_skipBlanks_11 rfl (lv_at hl 0 rfl) ?_
        refine gh_get C V hA.1 gc_Re gi_Re 3 (by decide) f_Re_30 rfl rfl d_Re_skipBlanks_12 ?_
        refine lv_aload_n hx hb d_Re_skipBlanks_15 rfl (lv_at hl 0 rfl) ?_
        refine gh_get C V hA.1 gc_Re gi_Re 5 (by decide) f_Re_42 rfl rfl d_Re_skipBlanks_16 ?_
        refine gn_cald (i := p9) C V h7_1 (by omega) (by omega) d_Re_skipBlanks_19 ?_
        rw [htx1 p9 hpn]
        refine lv_bipush (v := 32) hx hb d_Re_skipBlanks_20 (by decide) ?_
        refine lv_icmp_ne (tgt := 38) hx hb d_Re_skipBlanks_22 (by decide) (fun c5 => ?_) (fun c5 => absurd c5 (fun z => h32 (hch2.1.trans ((nI_eq (b := 32) (by omega) (by decide)).mp z))))
        refine gh_retv hAe C V hr hlocks d_Re_skipBlanks_38 (by first | decide | omega | (dsimp only; omega)) (by first | decide | omega | (dsimp only; omega)) ?_
        exact ⟨rfl, by rw [← hrb]; show re_A E ρ Z tx n f1 (if sg tx n p9 = 32 then _ else _) bd; rw [if_neg h32]; exact hA, hfr⟩
  exact loop (n - pl) pl f _ _ ls rfl hp rfl hA gh_fr.rf V hl
theorem d_Re_passes_0 : decode b_Re_passes 0 = .ok (.aload_n 0, 1) := by decide +kernel
theorem d_Re_passes_1 : decode b_Re_passes 1 = .ok (.invokevirtual 49, 3) := by decide +kernel
theorem d_Re_passes_4 : decode b_Re_passes 4 = .ok (.aload_n 0, 1) := by decide +kernel
theorem d_Re_passes_5 : decode b_Re_passes 5 = .ok (.invokevirtual 56, 3) := by decide +kernel
theorem d_Re_passes_8 : decode b_Re_passes 8 = .ok (.iload_n 1, 1) := by decide +kernel
theorem d_Re_passes_9 : decode b_Re_passes 9 = .ok (.if_icmp .eq 5, 3) := by decide +kernel
theorem d_Re_passes_12 : decode b_Re_passes 12 = .ok (.iconst 0, 1) := by decide +kernel
theorem d_Re_passes_13 : decode b_Re_passes 13 = .ok (.ireturn, 1) := by decide +kernel
theorem d_Re_passes_14 : decode b_Re_passes 14 = .ok (.aload_n 0, 1) := by decide +kernel
theorem d_Re_passes_15 : decode b_Re_passes 15 = .ok (.dup, 1) := by decide +kernel
theorem d_Re_passes_16 : decode b_Re_passes 16 = .ok (.getfield 42, 3) := by decide +kernel
theorem d_Re_passes_19 : decode b_Re_passes 19 = .ok (.iconst 1, 1) := by decide +kernel
theorem d_Re_passes_20 : decode b_Re_passes 20 = .ok (.iadd, 1) := by decide +kernel
theorem d_Re_passes_21 : decode b_Re_passes 21 = .ok (.putfield 42, 3) := by decide +kernel
theorem d_Re_passes_24 : decode b_Re_passes 24 = .ok (.iconst 1, 1) := by decide +kernel
theorem d_Re_passes_25 : decode b_Re_passes 25 = .ok (.ireturn, 1) := by decide +kernel
set_option maxHeartbeats 4000000 in
set_option maxRecDepth 100000 in
theorem c_Re_passes (l : Launch) (E : gh_E) (sz : Nat) (f : gh_F) (ρ Z tx : Nat → Nat) (n pl : Nat) (bd : Int32) (cc9 : Nat) (hA : re_A E ρ Z tx n f pl bd) (hp : pl ≤ n) (hc9 : cc9 < 127) (hc0 : cc9 ≠ 0) : gh_M l y_Re_passes b_Re_passes 2 (some .boolean) E sz [.ref (Z 8), .int (nI cc9)] f { frames := 3, cells := 0, slots := 0, locals := 60 } (fun r g => r = some (.int (gh_bi (decide (sg tx n (rbl tx n pl) = cc9)))) ∧ re_A E ρ Z tx n g (if sg tx n (rbl tx n pl) = cc9 then rbl tx n pl + 1 else rbl tx n pl) bd ∧ gh_fr f g (re_M ρ 8)) := by
  refine gh_open (by decide) (Nat.le_of_ble_eq_true rfl) ?_
  intro p e s m args below meth c A ls hAe C V hr hlocks hname hl
  have hx := C.1
  have hb := C.2.1
  have hl : lv_has ls 2 [(0, .ref (Z 8)), (1, .int (nI cc9))] := hl
  have h120 := hA.n
  have hfr : gh_fr f f (re_M ρ 8) := gh_fr.rf
  refine lv_aload_n hx hb d_Re_passes_0 rfl (lv_at hl 0 rfl) ?_
  refine gh_callV C V hl.1 m_Re_skipBlanks l_Re_49 (c_Re_skipBlanks l E _ _ ρ Z tx n pl bd hA (by omega)) rfl hA.1 gc_Re ⟨by first | decide | omega | (dsimp only; omega), by first | decide | omega | (dsimp only; omega)⟩ ⟨by first | decide | omega | (dsimp only; omega), by first | decide | omega | (dsimp only; omega)⟩ (Nat.le_of_ble_eq_true rfl) rfl d_Re_passes_1 (fun r fb1 H locs hp9 V1 => ?_)
  obtain ⟨rfl, hA2, hfr2⟩ := hp9
  have V := V1
  refine W.eq (g2 := F0 m 4 ls []) rfl ?_
  have hA := hA2
  have hfr := re_tr hfr hfr2 (by omega)
  have hbl2 := rbl_le (tx := tx) (n := n) (p := pl) (by omega)
  have hbg2 := rbl_ge (tx := tx) (n := n) (p := pl)
  have hch := (hA.ch (rbl tx n pl)).1
  refine lv_aload_n hx hb d_Re_passes_4 rfl (lv_at hl 0 rfl) ?_
  refine gh_callV C V hl.1 m_Re_sign l_Re_56 (c_Re_sign l E _ _ ρ Z tx n (rbl tx n pl) bd hA (by omega)) rfl hA.1 gc_Re ⟨by first | decide | omega | (dsimp only; omega), by first | decide | omega | (dsimp only; omega)⟩ ⟨by first | decide | omega | (dsimp only; omega), by first | decide | omega | (dsimp only; omega)⟩ (Nat.le_of_ble_eq_true rfl) rfl d_Re_passes_5 (fun r g3_ H locs hp9 V1 => ?_)
  obtain ⟨rfl, he9⟩ := hp9
  rw [he9] at V1
  have V := V1
  refine W.eq (g2 := F0 m 8 ls [.int (nI (sg tx n (rbl tx n pl)))]) rfl ?_
  by_cases hq : sg tx n (rbl tx n pl) = cc9
  · refine lv_iload_n hx hb d_Re_passes_8 rfl (lv_at hl 1 rfl) ?_
    refine lv_icmp_eq (tgt := 14) hx hb d_Re_passes_9 (by decide) (fun c1 => ?_) (fun c1 => absurd (by rw [hq]) c1)
    refine lv_aload_n hx hb d_Re_passes_14 rfl (lv_at hl 0 rfl) ?_
    refine lv_dup hx hb d_Re_passes_15 rfl ?_
    refine gh_get C V hA.1 gc_Re gi_Re 5 (by decide) f_Re_42 rfl rfl d_Re_passes_16 ?_
    refine lv_iconst (v := 1) hx hb d_Re_passes_19 (by decide) ?_
    refine gn_iadd (a := rbl tx n pl) (b := 1) hx hb d_Re_passes_20 ?_
    refine gh_put C V hA.1 gc_Re gi_Re ty_Re nm_Re 5 (by decide) f_Re_42 rfl rfl rfl (Nat.le_of_ble_eq_true rfl) d_Re_passes_21 (fun H locs V1 => ?_)
    obtain ⟨fa4, hffa4⟩ : ∃ z9 : gh_F, z9 = gh_u fb1 (Z 8) (.inr (3, [.ref (Z 200), .ref (Z 208), .ref (Z 9), .ref (Z 7), .int (nI n), .int (nI (rbl tx n pl + 1)), .int bd])) := ⟨_, rfl⟩
    have V : gh_V E A fa4 s H locs := by rw [hffa4]; exact V1
    have hA2 : re_A E ρ Z tx n fa4 (rbl tx n pl + 1) bd ∧ gh_fr fb1 fa4 (re_M ρ 8) := by rw [hffa4]; exact hA.own
    have hA := hA2.1
    have hfr := re_tr hfr hA2.2 (by omega)
    refine lv_iconst (v := 1) hx hb d_Re_passes_24 (by decide) ?_
    refine gh_retz hAe C V hr (by first | rfl | exact gh_bi_nar _ | decide) hlocks d_Re_passes_25 (by first | decide | omega | (dsimp only; omega)) (by first | decide | omega | (dsimp only; omega)) ?_
    exact ⟨by rw [decide_eq_true hq]; rfl, by rw [if_pos hq]; exact hA, hfr⟩
  · refine lv_iload_n hx hb d_Re_passes_8 rfl (lv_at hl 1 rfl) ?_
    refine lv_icmp_eq (tgt := 14) hx hb d_Re_passes_9 (by decide) (fun c2 => absurd c2 (fun z => hq ((nI_eq (by omega) (by omega)).mp z))) (fun c2 => ?_)
    refine lv_iconst (v := 0) hx hb d_Re_passes_12 (by decide) ?_
    refine gh_retz hAe C V hr (by first | rfl | exact gh_bi_nar _ | decide) hlocks d_Re_passes_13 (by first | decide | omega | (dsimp only; omega)) (by first | decide | omega | (dsimp only; omega)) ?_
    exact ⟨by rw [decide_eq_false hq]; rfl, by rw [if_neg hq]; exact hA, hfr⟩
theorem d_Re_isDigit_0 : decode b_Re_isDigit 0 = .ok (.iload_n 0, 1) := by decide +kernel
theorem d_Re_isDigit_1 : decode b_Re_isDigit 1 = .ok (.bipush 48, 2) := by decide +kernel
theorem d_Re_isDigit_3 : decode b_Re_isDigit 3 = .ok (.if_icmp .lt 13, 3) := by decide +kernel
theorem d_Re_isDigit_6 : decode b_Re_isDigit 6 = .ok (.iload_n 0, 1) := by decide +kernel
theorem d_Re_isDigit_7 : decode b_Re_isDigit 7 = .ok (.bipush 57, 2) := by decide +kernel
theorem d_Re_isDigit_9 : decode b_Re_isDigit 9 = .ok (.if_icmp .gt 7, 3) := by decide +kernel
theorem d_Re_isDigit_12 : decode b_Re_isDigit 12 = .ok (.iconst 1, 1) := by decide +kernel
theorem d_Re_isDigit_13 : decode b_Re_isDigit 13 = .ok (.goto 4, 3) := by decide +kernel
theorem d_Re_isDigit_16 : decode b_Re_isDigit 16 = .ok (.iconst 0, 1) := by decide +kernel
theorem d_Re_isDigit_17 : decode b_Re_isDigit 17 = .ok (.ireturn, 1) := by decide +kernel
set_option maxHeartbeats 4000000 in
set_option maxRecDepth 100000 in
theorem c_Re_isDigit (l : Launch) (E : gh_E) (sz : Nat) (f : gh_F) (x : Nat) (hx9 : x < 127) : gh_M l y_Re_isDigit b_Re_isDigit 1 (some .boolean) E sz [.int (nI x)] f { frames := 1, cells := 0, slots := 0, locals := 20 } (fun r g => r = some (.int (gh_bi (decide (48 ≤ x ∧ x ≤ 57)))) ∧ g = f) := by
  refine gh_open (by decide) (Nat.le_of_ble_eq_true rfl) ?_
  intro p e s m args below meth c A ls hAe C V hr hlocks hname hl
  have hx := C.1
  have hb := C.2.1
  have hl : lv_has ls 1 [(0, .int (nI x))] := hl
  refine lv_iload_n hx hb d_Re_isDigit_0 rfl (lv_at hl 0 rfl) ?_
  refine lv_bipush (v := 48) hx hb d_Re_isDigit_1 (by decide) ?_
  refine lv_icmp_lt (tgt := 16) hx hb d_Re_isDigit_3 (by decide) (fun c1 => ?_) (fun c1 => ?_)
  · have c1 : x < 48 := by rw [← gq_lt (a := x) (b := 48) (by omega) (by omega)]; exact c1
    refine lv_iconst (v := 0) hx hb d_Re_isDigit_16 (by decide) ?_
    refine gh_retz hAe C V hr (by first | rfl | exact gh_bi_nar _ | decide) hlocks d_Re_isDigit_17 (by first | decide | omega | (dsimp only; omega)) (by first | decide | omega | (dsimp only; omega)) ?_
    exact ⟨by rw [decide_eq_false (by omega)]; rfl, rfl⟩
  · have c1 : ¬ x < 48 := by rw [← gq_lt (a := x) (b := 48) (by omega) (by omega)]; exact c1
    refine lv_iload_n hx hb d_Re_isDigit_6 rfl (lv_at hl 0 rfl) ?_
    refine lv_bipush (v := 57) hx hb d_Re_isDigit_7 (by decide) ?_
    refine lv_icmp_gt (tgt := 16) hx hb d_Re_isDigit_9 (by decide) (fun c2 => ?_) (fun c2 => ?_)
    · have c2 : 57 < x := by rw [← gq_lt (a := 57) (b := x) (by omega) (by omega)]; exact c2
      refine lv_iconst (v := 0) hx hb d_Re_isDigit_16 (by decide) ?_
      refine gh_retz hAe C V hr (by first | rfl | exact gh_bi_nar _ | decide) hlocks d_Re_isDigit_17 (by first | decide | omega | (dsimp only; omega)) (by first | decide | omega | (dsimp only; omega)) ?_
      exact ⟨by rw [decide_eq_false (by omega)]; rfl, rfl⟩
    · have c2 : ¬ 57 < x := by rw [← gq_lt (a := 57) (b := x) (by omega) (by omega)]; exact c2
      refine lv_iconst (v := 1) hx hb d_Re_isDigit_12 (by decide) ?_
      refine lv_goto (tgt := 17) hx hb d_Re_isDigit_13 (by decide) ?_
      refine gh_retz hAe C V hr (by first | rfl | exact gh_bi_nar _ | decide) hlocks d_Re_isDigit_17 (by first | decide | omega | (dsimp only; omega)) (by first | decide | omega | (dsimp only; omega)) ?_
      exact ⟨by rw [decide_eq_true (by omega)]; rfl, rfl⟩
def sc_w : List (List Nat) := [[110, 117, 108, 108], [102, 97, 108, 115, 101], [116, 114, 117, 101]]
theorem sc_wc : ∀ i, i < 3 → ∀ k, k < sc_n i → sc_c i k = nI ((sc_w.getD i []).getD k 0) ∧ (sc_w.getD i []).getD k 0 < 127 ∧ 32 ≤ (sc_w.getD i []).getD k 0 := by decide +kernel
theorem sc_wl : ∀ i, i < 3 → (sc_w.getD i []).length = sc_n i := by decide +kernel
theorem nl_drop {L : List Nat} {k : Nat} (h : k < L.length) : L.drop k = L.getD k 0 :: L.drop (k + 1) := by
  induction L generalizing k with
  | nil => exact absurd h (Nat.not_lt_zero k)
  | cons y r ih =>
    cases k with
    | zero => rfl
    | succ k => exact ih (by simpa using h)
theorem d_Re_readWord_0 : decode b_Re_readWord 0 = .ok (.iconst 0, 1) := by decide +kernel
theorem d_Re_readWord_1 : decode b_Re_readWord 1 = .ok (.istore_n 3, 1) := by decide +kernel
theorem d_Re_readWord_2 : decode b_Re_readWord 2 = .ok (.iload_n 3, 1) := by decide +kernel
theorem d_Re_readWord_3 : decode b_Re_readWord 3 = .ok (.aload_n 1, 1) := by decide +kernel
theorem d_Re_readWord_4 : decode b_Re_readWord 4 = .ok (.invokevirtual 144, 3) := by decide +kernel
theorem d_Re_readWord_7 : decode b_Re_readWord 7 = .ok (.if_icmp .ge 36, 3) := by decide +kernel
theorem d_Re_readWord_10 : decode b_Re_readWord 10 = .ok (.aload_n 0, 1) := by decide +kernel
theorem d_Re_readWord_11 : decode b_Re_readWord 11 = .ok (.invokevirtual 56, 3) := by decide +kernel
theorem d_Re_readWord_14 : decode b_Re_readWord 14 = .ok (.aload_n 1, 1) := by decide +kernel
theorem d_Re_readWord_15 : decode b_Re_readWord 15 = .ok (.iload_n 3, 1) := by decide +kernel
theorem d_Re_readWord_16 : decode b_Re_readWord 16 = .ok (.invokevirtual 149, 3) := by decide +kernel
theorem d_Re_readWord_19 : decode b_Re_readWord 19 = .ok (.if_icmp .eq 8, 3) := by decide +kernel
theorem d_Re_readWord_22 : decode b_Re_readWord 22 = .ok (.aload_n 0, 1) := by decide +kernel
theorem d_Re_readWord_23 : decode b_Re_readWord 23 = .ok (.invokevirtual 52, 3) := by decide +kernel
theorem d_Re_readWord_26 : decode b_Re_readWord 26 = .ok (.areturn, 1) := by decide +kernel
theorem d_Re_readWord_27 : decode b_Re_readWord 27 = .ok (.aload_n 0, 1) := by decide +kernel
theorem d_Re_readWord_28 : decode b_Re_readWord 28 = .ok (.dup, 1) := by decide +kernel
theorem d_Re_readWord_29 : decode b_Re_readWord 29 = .ok (.getfield 42, 3) := by decide +kernel
theorem d_Re_readWord_32 : decode b_Re_readWord 32 = .ok (.iconst 1, 1) := by decide +kernel
theorem d_Re_readWord_33 : decode b_Re_readWord 33 = .ok (.iadd, 1) := by decide +kernel
theorem d_Re_readWord_34 : decode b_Re_readWord 34 = .ok (.putfield 42, 3) := by decide +kernel
theorem d_Re_readWord_37 : decode b_Re_readWord 37 = .ok (.iinc 3 1, 3) := by decide +kernel
theorem d_Re_readWord_40 : decode b_Re_readWord 40 = .ok (.goto (-38), 3) := by decide +kernel
theorem d_Re_readWord_43 : decode b_Re_readWord 43 = .ok (.aload_n 2, 1) := by decide +kernel
theorem d_Re_readWord_44 : decode b_Re_readWord 44 = .ok (.areturn, 1) := by decide +kernel
set_option maxHeartbeats 4000000 in
set_option maxRecDepth 100000 in
theorem c_Re_readWord (l : Launch) (E : gh_E) (sz : Nat) (f : gh_F) (ρ Z tx : Nat → Nat) (n pl : Nat) (bd : Int32) (i0 v : Nat) (hA : re_A E ρ Z tx n f pl bd) (hp : pl ≤ n) (hi0 : i0 < 3) : gh_M l y_Re_readWord b_Re_readWord 4 (some (.object "QueryMachine$Value")) E sz [.ref (Z 8), .ref (E.2.2.2 (2 + i0)), .ref v] f { frames := 11, cells := 0, slots := 0, locals := 240 } (fun r g => (r = some (if (rd_w tx n (sc_w.getD i0 []) pl).2 = true then .ref v else .null) ∧ re_A E ρ Z tx n g (rd_w tx n (sc_w.getD i0 []) pl).1 (if (rd_w tx n (sc_w.getD i0 []) pl).2 = true then bd else nI (rd_w tx n (sc_w.getD i0 []) pl).1)) ∧ gh_fr f g (re_M ρ 8)) := by
  refine gh_open (by decide) (Nat.le_of_ble_eq_true rfl) ?_
  intro p e s m args below meth c A ls hAe C V hr hlocks hname hl
  have hx := C.1
  have hb := C.2.1
  have hl : lv_has ls 4 [(0, .ref (Z 8)), (1, .ref (E.2.2.2 (2 + i0))), (2, .ref v)] := hl
  have h120 := hA.n
  have hn5 := sc_n5 i0
  have hwl := sc_wl i0 hi0
  have hfr : gh_fr f f (re_M ρ 8) := gh_fr.rf
  refine lv_iconst (v := 0) hx hb d_Re_readWord_0 (by decide) ?_
  refine lv_istore_n hx hb d_Re_readWord_1 rfl hl (by decide) rfl (fun ls hl => ?_)
  have hl : lv_has ls 4 [(3, .int 0), (0, .ref (Z 8)), (1, .ref (E.2.2.2 (2 + i0))), (2, .ref v)] := hl
  have hl : lv_has ls 4 [(3, .int 0), (0, .ref (Z 8)), (1, .ref (E.2.2.2 (2 + i0))), (2, .ref v)] := lv_sub hl [0, 1, 2, 3] rfl
  have hl : lv_has ls 4 [(3, .int (nI 0)), (0, .ref (Z 8)), (1, .ref (E.2.2.2 (2 + i0))), (2, .ref v)] := hl
  have loop : ∀ (n9 i9 p9 : Nat) (f1 : gh_F) (H : Heap) (locs : List Loc) (ls : Array Slot), i9 + n9 = sc_n i0 → p9 ≤ n → rd_w tx n ((sc_w.getD i0 []).drop i9) p9 = rd_w tx n (sc_w.getD i0 []) pl → re_A E ρ Z tx n f1 p9 bd → gh_fr f f1 (re_M ρ 8) → gh_V E A f1 s H locs → lv_has ls 4 [(3, .int (nI i9)), (0, .ref (Z 8)), (1, .ref (E.2.2.2 (2 + i0))), (2, .ref v)] → W p l e { frames := 11, cells := 0, slots := 0, locals := 240 } s m args below meth c H locs 0 0 (MQ below (gh_Q E f (fun r g => (r = some (if (rd_w tx n (sc_w.getD i0 []) pl).2 = true then .ref v else .null) ∧ re_A E ρ Z tx n g (rd_w tx n (sc_w.getD i0 []) pl).1 (if (rd_w tx n (sc_w.getD i0 []) pl).2 = true then bd else nI (rd_w tx n (sc_w.getD i0 []) pl).1)) ∧ gh_fr f g (re_M ρ 8))) args s 0 0 A) (F0 m 2 ls []) := by
    intro n9
    induction n9 with
    | zero =>
      intro i9 p9 f1 H locs ls hi hp9 hrw hA hfr V hl
      refine lv_iload_n hx hb d_Re_readWord_2 rfl (lv_at hl 0 rfl) ?_
      refine lv_aload_n hx hb d_Re_readWord_3 rfl (lv_at hl 2 rfl) ?_
      refine gs_call C V hl.1 m_jS_length l_Re_144 (c_jS_length l E _ _ i0 hi0) rfl hi0 rfl ⟨by first | decide | omega | (dsimp only; omega), by first | decide | omega | (dsimp only; omega)⟩ ⟨by first | decide | omega | (dsimp only; omega), by first | decide | omega | (dsimp only; omega)⟩ (Nat.le_of_ble_eq_true rfl) rfl d_Re_readWord_4 (fun r g1_ H locs hp9 V1 => ?_)
      obtain ⟨rfl, he9⟩ := hp9
      rw [he9] at V1
      have V := V1
      refine W.eq (g2 := F0 m 7 ls [.int (nI (sc_n i0)), .int (nI i9)]) rfl ?_
      have hd : (sc_w.getD i0 []).drop i9 = [] := List.drop_eq_nil_of_le (by omega)
      rw [hd] at hrw
      have hrw : (p9, true) = rd_w tx n (sc_w.getD i0 []) pl := hrw
      refine lv_icmp_ge (tgt := 43) hx hb d_Re_readWord_7 (by decide) (fun c1 => ?_) (fun c1 => absurd (nI_le (by omega) (by omega)) c1)
      refine lv_aload_n hx hb d_Re_readWord_43 rfl (lv_at hl 3 rfl) ?_
      refine gh_reta hAe C V hr (by first | exact Or.inl ⟨_, rfl⟩ | exact Or.inr ⟨_, rfl⟩) (by first | exact Or.inl rfl | exact Or.inr ⟨_, rfl⟩) hlocks d_Re_readWord_44 (by first | decide | omega | (dsimp only; omega)) (by first | decide | omega | (dsimp only; omega)) ?_
      rw [← hrw]
      exact ⟨⟨rfl, hA⟩, hfr⟩
    | succ n9 ih =>
      intro i9 p9 f1 H locs ls hi hp9 hrw hA hfr V hl
      refine lv_iload_n hx hb d_Re_readWord_2 rfl (lv_at hl 0 rfl) ?_
      refine lv_aload_n hx hb d_Re_readWord_3 rfl (lv_at hl 2 rfl) ?_
      refine gs_call C V hl.1 m_jS_length l_Re_144 (c_jS_length l E _ _ i0 hi0) rfl hi0 rfl ⟨by first | decide | omega | (dsimp only; omega), by first | decide | omega | (dsimp only; omega)⟩ ⟨by first | decide | omega | (dsimp only; omega), by first | decide | omega | (dsimp only; omega)⟩ (Nat.le_of_ble_eq_true rfl) rfl d_Re_readWord_4 (fun r g2_ H locs hp9 V1 => ?_)
      obtain ⟨rfl, he9⟩ := hp9
      rw [he9] at V1
      have V := V1
      refine W.eq (g2 := F0 m 7 ls [.int (nI (sc_n i0)), .int (nI i9)]) rfl ?_
      rw [nl_drop (show i9 < (sc_w.getD i0 []).length by omega)] at hrw
      have hwc := sc_wc i0 hi0 i9 (by omega)
      have hrw : (if sg tx n p9 = (sc_w.getD i0 []).getD i9 0 then rd_w tx n ((sc_w.getD i0 []).drop (i9 + 1)) (p9 + 1) else (p9, false)) = rd_w tx n (sc_w.getD i0 []) pl := hrw
      have hch := (hA.ch p9).1
      refine lv_icmp_ge (tgt := 43) hx hb d_Re_readWord_7 (by decide) (fun c2 => absurd c2 (nI_ge (by omega) (by omega))) (fun c2 => ?_)
      refine lv_aload_n hx hb d_Re_readWord_10 rfl (lv_at hl 1 rfl) ?_
      refine gh_callV C V hl.1 m_Re_sign l_Re_56 (c_Re_sign l E _ _ ρ Z tx n p9 bd hA (by omega)) rfl hA.1 gc_Re ⟨by first | decide | omega | (dsimp only; omega), by first | decide | omega | (dsimp only; omega)⟩ ⟨by first | decide | omega | (dsimp only; omega), by first | decide | omega | (dsimp only; omega)⟩ (Nat.le_of_ble_eq_true rfl) rfl d_Re_readWord_11 (fun r g3_ H locs hp9 V1 => ?_)
      obtain ⟨rfl, he9⟩ := hp9
      rw [he9] at V1
      have V := V1
      refine W.eq (g2 := F0 m 14 ls [.int (nI (sg tx n p9))]) rfl ?_
      refine lv_aload_n hx hb d_Re_readWord_14 rfl (lv_at hl 2 rfl) ?_
      refine lv_iload_n hx hb d_Re_readWord_15 rfl (lv_at hl 0 rfl) ?_
      refine gs_call C V hl.1 m_jS_charAt l_Re_149 (c_jS_charAt l E _ _ i0 i9 hi0 (by omega)) rfl hi0 rfl ⟨by first | decide | omega | (dsimp only; omega), by first | decide | omega | (dsimp only; omega)⟩ ⟨by first | decide | omega | (dsimp only; omega), by first | decide | omega | (dsimp only; omega)⟩ (Nat.le_of_ble_eq_true rfl) rfl d_Re_readWord_16 (fun r g4_ H locs hp9 V1 => ?_)
      obtain ⟨rfl, he9⟩ := hp9
      rw [he9] at V1
      have V := V1
      refine W.eq (g2 := F0 m 19 ls [.int (sc_c i0 i9), .int (nI (sg tx n p9))]) rfl ?_
      rw [hwc.1]
      by_cases hq : sg tx n p9 = (sc_w.getD i0 []).getD i9 0
      · rw [if_pos hq] at hrw
        have hpn := sg_lt (by omega : sg tx n p9 ≠ 0)
        refine lv_icmp_eq (tgt := 27) hx hb d_Re_readWord_19 (by decide) (fun c3 => ?_) (fun c3 => absurd (by rw [hq]) c3)
        refine lv_aload_n hx hb d_Re_readWord_27 rfl (lv_at hl 1 rfl) ?_
        refine lv_dup hx hb d_Re_readWord_28 rfl ?_
        refine gh_get C V hA.1 gc_Re gi_Re 5 (by decide) f_Re_42 rfl rfl d_Re_readWord_29 ?_
        refine lv_iconst (v := 1) hx hb d_Re_readWord_32 (by decide) ?_
        refine gn_iadd (a := p9) (b := 1) hx hb d_Re_readWord_33 ?_
        refine gh_put C V hA.1 gc_Re gi_Re ty_Re nm_Re 5 (by decide) f_Re_42 rfl rfl rfl (Nat.le_of_ble_eq_true rfl) d_Re_readWord_34 (fun H locs V1 => ?_)
        obtain ⟨fa5, hffa5⟩ : ∃ z9 : gh_F, z9 = gh_u f1 (Z 8) (.inr (3, [.ref (Z 200), .ref (Z 208), .ref (Z 9), .ref (Z 7), .int (nI n), .int (nI (p9 + 1)), .int bd])) := ⟨_, rfl⟩
        have V : gh_V E A fa5 s H locs := by rw [hffa5]; exact V1
        have hA2 : re_A E ρ Z tx n fa5 (p9 + 1) bd ∧ gh_fr f1 fa5 (re_M ρ 8) := by rw [hffa5]; exact hA.own
        have hA := hA2.1
        have hfr := re_tr hfr hA2.2 (by omega)
        refine lv_iinc (k := 0) (v := (nI i9) + 1) hx hb d_Re_readWord_37 hl rfl (by rfl) (by decide) rfl (fun ls hl => ?_)
        have hl : lv_has ls 4 [(3, .int (nI (i9 + 1))), (0, .ref (Z 8)), (1, .ref (E.2.2.2 (2 + i0))), (2, .ref v)] := by rw [nI_succ]; exact hl
        refine lv_goto (tgt := 2) hx hb d_Re_readWord_40 (by decide) ?_
        have hl : lv_has ls 4 [(3, .int (nI (i9 + 1))), (0, .ref (Z 8)), (1, .ref (E.2.2.2 (2 + i0))), (2, .ref v)] := lv_sub hl [0, 1, 2, 3] rfl
        have hl : lv_has ls 4 [(3, .int (nI (i9 + 1))), (0, .ref (Z 8)), (1, .ref (E.2.2.2 (2 + i0))), (2, .ref v)] := hl
        exact ih (i9 + 1) (p9 + 1) _ _ _ ls (by omega) (by omega) hrw hA hfr V hl
      · rw [if_neg hq] at hrw
        refine lv_icmp_eq (tgt := 27) hx hb d_Re_readWord_19 (by decide) (fun c4 => absurd c4 (fun z => hq ((nI_eq (by omega) (by omega)).mp z))) (fun c4 => ?_)
        refine lv_aload_n hx hb d_Re_readWord_22 rfl (lv_at hl 1 rfl) ?_
        refine gh_callV C V hl.1 m_Re_refused l_Re_52 (c_Re_refused l E _ _ ρ Z tx n p9 bd hA) rfl hA.1 gc_Re ⟨by first | decide | omega | (dsimp only; omega), by first | decide | omega | (dsimp only; omega)⟩ ⟨by first | decide | omega | (dsimp only; omega), by first | decide | omega | (dsimp only; omega)⟩ (Nat.le_of_ble_eq_true rfl) rfl d_Re_readWord_23 (fun r fz6 H locs hp9 V1 => ?_)
        obtain ⟨rfl, hA2, hfr2⟩ := hp9
        have V := V1
        refine W.eq (g2 := F0 m 26 ls [.null]) rfl ?_
        have hA := hA2
        have hfr := re_tr hfr hfr2 (by omega)
        refine gh_reta hAe C V hr (by first | exact Or.inl ⟨_, rfl⟩ | exact Or.inr ⟨_, rfl⟩) (by first | exact Or.inl rfl | exact Or.inr ⟨_, rfl⟩) hlocks d_Re_readWord_26 (by first | decide | omega | (dsimp only; omega)) (by first | decide | omega | (dsimp only; omega)) ?_
        rw [← hrw]
        exact ⟨⟨rfl, hA⟩, hfr⟩
  exact loop (sc_n i0) 0 pl f _ _ ls (by omega) hp rfl hA hfr V hl
