/-! The parts of a new machine. f0: the ghost heap at the constructor's call: all cells but the object itself are new since. -/
abbrev qm_V0 (E : gh_E) (k : Int32) (ni : Nat) : va_E := .inr (6, [.int k, .long 0, .ref (E.2.2.2 1), .ref ni, .ref ni, .int 1, .int 0])
abbrev qm_none (n : Nat) (E : gh_E) : va_E := .inl (E.2.2.1 4, n, .inr (.inr (.inr (.inr (fun _ => none)))))
def qm_Vs (E : gh_E) (f0 f : gh_F) (vs nu : Nat) : Prop := ∃ (ni no ye al ga k i : Nat) (g : Nat → Option Nat) (X K : Nat → Nat), (f0 ni = none ∧ f0 nu = none ∧ f0 no = none ∧ f0 ye = none ∧ f0 al = none ∧ f0 ga = none ∧ f0 k = none ∧ f0 i = none) ∧ k ≠ i ∧ f vs = some (.inr (7, [.ref nu, .ref no, .ref ye, .ref ni, .ref al, .ref ga])) ∧ f ni = some (qm_none 0 E) ∧ f nu = some (qm_V0 E 0 ni) ∧ f no = some (qm_V0 E 1 ni) ∧ f ye = some (qm_V0 E 2 ni) ∧ f al = some (.inl (E.2.2.1 4, 26, .inr (.inr (.inr (.inr g))))) ∧ gh_Ls E f0 f g 26 X K ni ∧ f ga = some (.inr (1, [.ref k, .ref i, .int 0])) ∧ f k = some (gh_A16 E) ∧ f i = some (gh_A16 E)
def qm_Re (E : gh_E) (f0 f : gh_F) (re vs : Nat) : Prop := ∃ (ga lt : Nat) (g : Nat → Option Nat) (X K I : Nat → Nat), f0 ga = none ∧ f0 lt = none ∧ ga ≠ lt ∧ f re = some (.inr (3, [.ref vs, .ref ga, .ref lt, .null, .int 0, .int 0, .int (-1)])) ∧ f ga = some (.inl (E.2.2.1 5, 8, .inr (.inr (.inr (.inr g))))) ∧ f lt = some (.inl (E.2.2.1 2, 24, .inl (fun _ => 0))) ∧ gh_Gs E f0 f g 8 X K I
def qm_Wr (E : gh_E) (f0 f : gh_F) (wr : Nat) : Prop := ∃ k, f0 k = none ∧ f wr = some (.inr (8, [.ref k, .int 0, .int 0, .int 0])) ∧ f k = some (.inl (E.2.2.1 2, 19, .inl (fun _ => 0)))
def qm_Ru (E : gh_E) (f0 f : gh_F) (ru vs : Nat) : Prop := ∃ (st ga po : Nat) (gS gG : Nat → Option Nat) (XS X K I : Nat → Nat), f0 st = none ∧ f0 ga = none ∧ f0 po = none ∧ st ≠ ga ∧ st ≠ po ∧ ga ≠ po ∧ f ru = some (.inr (4, [.ref vs, .ref st, .ref ga, .ref po, .null, .int 0, .int 0, .int 0, .int (-1)])) ∧ f st = some (.inl (E.2.2.1 6, 250, .inr (.inr (.inr (.inr gS))))) ∧ f ga = some (.inl (E.2.2.1 5, 12, .inr (.inr (.inr (.inr gG))))) ∧ f po = some (gh_A16 E) ∧ gh_Ss f0 f gS 250 XS ∧ gh_Gs E f0 f gG 12 X K I ∧ (∀ j, j < 12 → K j ≠ po ∧ I j ≠ po)
/-- a query of n bytes cb, the beginnings bg -/
def qm_Qu (E : gh_E) (f0 f : gh_F) (q n : Nat) (cb bg : Nat → Nat) : Prop := ∃ k i, f0 k = none ∧ f0 i = none ∧ k ≠ i ∧ f q = some (.inr (2, [.ref k, .ref i, .int (nI n)])) ∧ f k = some (.inl (E.2.2.1 0, 60, .inl (fun j => nI (cb j)))) ∧ f i = some (.inl (E.2.2.1 0, 180, .inl (fun j => nI (bg j))))
section QK
variable {E : gh_E} {f0 f g : gh_F} {M : Nat → Prop}
theorem qm_Vs.keep {vs nu : Nat} (h : qm_Vs E f0 f vs nu) (hfr : gh_fr f g M) (hM : ∀ b, M b → f0 b ≠ none) (hv : ¬ M vs) : qm_Vs E f0 g vs nu := by
  obtain ⟨ni, no, ye, al, ga, k, i, g9, X, K, ⟨n1, n2, n3, n4, n5, n6, n7, n8⟩, hki, h1, h2, h3, h4, h5, h6, h7, h8, h9, h10⟩ := h
  have kp : ∀ {b : Nat} {e : va_E}, f0 b = none → f b = some e → g b = some e := fun hb he => hfr.at he (fun z => hM _ z hb)
  exact ⟨ni, no, ye, al, ga, k, i, g9, X, K, ⟨n1, n2, n3, n4, n5, n6, n7, n8⟩, hki, hfr.at h1 hv, kp n1 h2, kp n2 h3, kp n3 h4, kp n4 h5, kp n5 h6, h7.keep hfr hM, kp n6 h8, kp n7 h9, kp n8 h10⟩
theorem qm_Re.keep {re vs : Nat} (h : qm_Re E f0 f re vs) (hfr : gh_fr f g M) (hM : ∀ b, M b → f0 b ≠ none) (hv : ¬ M re) : qm_Re E f0 g re vs := by
  obtain ⟨ga, lt, g9, X, K, I, n1, n2, hne, h1, h2, h3, h4⟩ := h
  exact ⟨ga, lt, g9, X, K, I, n1, n2, hne, hfr.at h1 hv, hfr.at h2 (fun z => hM _ z n1), hfr.at h3 (fun z => hM _ z n2), h4.keep hfr hM⟩
theorem qm_Wr.keep {wr : Nat} (h : qm_Wr E f0 f wr) (hfr : gh_fr f g M) (hM : ∀ b, M b → f0 b ≠ none) (hv : ¬ M wr) : qm_Wr E f0 g wr := by
  obtain ⟨k, n1, h1, h2⟩ := h
  exact ⟨k, n1, hfr.at h1 hv, hfr.at h2 (fun z => hM _ z n1)⟩
theorem qm_Ru.keep {ru vs : Nat} (h : qm_Ru E f0 f ru vs) (hfr : gh_fr f g M) (hM : ∀ b, M b → f0 b ≠ none) (hv : ¬ M ru) : qm_Ru E f0 g ru vs := by
  obtain ⟨st, ga, po, gS, gG, XS, X, K, I, n1, n2, n3, d1, d2, d3, h1, h2, h3, h4, h5, h6, h7⟩ := h
  exact ⟨st, ga, po, gS, gG, XS, X, K, I, n1, n2, n3, d1, d2, d3, hfr.at h1 hv, hfr.at h2 (fun z => hM _ z n1), hfr.at h3 (fun z => hM _ z n2), hfr.at h4 (fun z => hM _ z n3), h5.keep hfr hM, h6.keep hfr hM, h7⟩
theorem qm_Qu.keep {q n : Nat} {cb bg : Nat → Nat} (h : qm_Qu E f0 f q n cb bg) (hfr : gh_fr f g M) (hM : ∀ b, M b → f0 b ≠ none) (hv : ¬ M q) : qm_Qu E f0 g q n cb bg := by
  obtain ⟨k, i, n1, n2, hne, h1, h2, h3⟩ := h
  exact ⟨k, i, n1, n2, hne, hfr.at h1 hv, hfr.at h2 (fun z => hM _ z n1), hfr.at h3 (fun z => hM _ z n2)⟩
end QK
theorem gh_weak {l : Launch} {y : MethodName} {b : ByteArray} {n : Nat} {ret : Option FieldType} {E : gh_E} {sz : Nat} {av : List Value} {f : gh_F} {rm : Room} {post post2 : Option Value → gh_F → Prop} (h : gh_M l y b n ret E sz av f rm post) (hp : ∀ r g, post r g → post2 r g) : gh_M l y b n ret E sz av f rm post2 := by
  intro p e ha hc hk s m args below hf happ hP hK
  obtain ⟨n0, o, h1, h2, h3, ⟨r, f', ho, hq, h4⟩, h5⟩ := h p e ha hc hk s m args below hf happ hP hK
  exact ⟨n0, o, h1, h2, h3, ⟨r, f', ho, hp r f' hq, h4⟩, h5⟩
/-- the constructors once more, in these words -/
theorem k_Vs (l : Launch) (E : gh_E) (sz : Nat) (f : gh_F) (a : Nat) (ha : f a = some (.inr (7, [.null, .null, .null, .null, .null, .null]))) : gh_M l y_Vs_init b_Vs_init 3 none E sz [.ref a] f { frames := 3, cells := 60, slots := 290, locals := 80 } (fun r g => r = none ∧ (∃ nu, qm_Vs E f g a nu) ∧ gh_fr f g (fun b => b ∈ ([a] : List Nat))) :=
  gh_weak (c_Vs_init l E sz f a ha) (fun r g h => by
    obtain ⟨hr, ni, nu, no, ye, al, ga, k, i, g9, X, K, hn, hki, h1, h2, h3, h4, h5, h6, h7, h8, h9, h10, hfr⟩ := h
    exact ⟨hr, ⟨nu, ni, no, ye, al, ga, k, i, g9, X, K, hn, hki, h1, h2, h3, h4, h5, h6, h7, h8, h9, h10⟩, hfr⟩)
theorem k_Re (l : Launch) (E : gh_E) (sz : Nat) (f : gh_F) (a vs : Nat) (ha : f a = some (.inr (3, [.null, .null, .null, .null, .int 0, .int 0, .int 0]))) : gh_M l y_Re_init b_Re_init 3 none E sz [.ref a, .ref vs] f { frames := 3, cells := 26, slots := 312, locals := 60 } (fun r g => r = none ∧ qm_Re E f g a vs ∧ gh_fr f g (fun b => b ∈ ([a] : List Nat))) :=
  gh_weak (c_Re_init l E sz f a vs ha) (fun r g h => by
    obtain ⟨hr, ga, lt, g9, X, K, I, n1, n2, hne, h1, h2, h3, h4, hfr⟩ := h
    exact ⟨hr, ⟨ga, lt, g9, X, K, I, n1, n2, hne, h1, h2, h3, h4⟩, hfr⟩)
theorem k_Wr (l : Launch) (E : gh_E) (sz : Nat) (f : gh_F) (a : Nat) (ha : f a = some (.inr (8, [.null, .int 0, .int 0, .int 0]))) : gh_M l y_Wr_init b_Wr_init 1 none E sz [.ref a] f { frames := 1, cells := 1, slots := 19, locals := 20 } (fun r g => r = none ∧ qm_Wr E f g a ∧ gh_fr f g (fun b => b ∈ ([a] : List Nat))) :=
  gh_weak (c_Wr_init l E sz f a ha) (fun r g h => by
    obtain ⟨hr, k, n1, h1, h2, hfr⟩ := h
    exact ⟨hr, ⟨k, n1, h1, h2⟩, hfr⟩)
theorem k_Ru (l : Launch) (E : gh_E) (sz : Nat) (f : gh_F) (a vs : Nat) (ha : f a = some (.inr (4, [.null, .null, .null, .null, .null, .int 0, .int 0, .int 0, .int 0]))) : gh_M l y_Ru_init b_Ru_init 3 none E sz [.ref a, .ref vs] f { frames := 3, cells := 289, slots := 2948, locals := 60 } (fun r g => r = none ∧ qm_Ru E f g a vs ∧ gh_fr f g (fun b => b ∈ ([a] : List Nat))) :=
  gh_weak (c_Ru_init l E sz f a vs ha) (fun r g h => by
    obtain ⟨hr, st, ga, po, gS, gG, XS, X, K, I, n1, n2, n3, d1, d2, d3, h1, h2, h3, h4, h5, h6, h7, hfr⟩ := h
    exact ⟨hr, ⟨st, ga, po, gS, gG, XS, X, K, I, n1, n2, n3, d1, d2, d3, h1, h2, h3, h4, h5, h6, h7⟩, hfr⟩)
theorem k_Qu (l : Launch) (E : gh_E) (sz : Nat) (f : gh_F) (a : Nat) (ha : f a = some (.inr (2, [.null, .null, .int 0]))) : gh_M l y_Qu_init b_Qu_init 1 none E sz [.ref a] f { frames := 1, cells := 2, slots := 240, locals := 20 } (fun r g => r = none ∧ qm_Qu E f g a 0 (fun _ => 0) (fun _ => 0) ∧ gh_fr f g (fun b => b ∈ ([a] : List Nat))) :=
  gh_weak (c_Qu_init l E sz f a ha) (fun r g h => by
    obtain ⟨hr, k, i, n1, n2, hne, h1, h2, h3, hfr⟩ := h
    exact ⟨hr, ⟨k, i, n1, n2, hne, h1, h2, h3⟩, hfr⟩)
/-- append, and then findsParts, on a query -/
theorem k_append (l : Launch) (E : gh_E) (sz : Nat) (f f0 : gh_F) (a n k : Nat) (cb bg : Nat → Nat) (hn : n < 60) (hq : qm_Qu E f0 f a n cb bg) : gh_M l y_Qu_append b_Qu_append 2 none E sz [.ref a, .int (nI k)] f { frames := 1, cells := 0, slots := 0, locals := 12 } (fun r g => r = none ∧ qm_Qu E f0 g a (n + 1) (va_up cb n k) bg ∧ gh_fr f g (fun b => b = a ∨ f0 b = none)) := by
  obtain ⟨cd, bga, n1, n2, hne, h1, h2, h3⟩ := hq
  refine gh_weak (c_Qu_append l E sz f a cd bga n k cb (by omega) h1 h2) (fun r g h => ?_)
  obtain ⟨hr, hlt, -⟩ := h
  obtain ⟨g1, g2, hfr⟩ := hlt hn
  refine ⟨hr, ⟨cd, bga, n1, n2, hne, g1, g2, hfr.at2 h3 (gh_nek h3 h1 (show (100 : Nat) ≠ 2 by decide)) (Ne.symm hne)⟩, hfr.wide (fun b hb => ?_)⟩
  rcases List.mem_cons.mp hb with z | z
  · exact Or.inl z
  · right; rw [List.mem_singleton.mp z]; exact n1
theorem k_finds (l : Launch) (E : gh_E) (sz : Nat) (f f0 : gh_F) (a n : Nat) (cb bg : Nat → Nat) (hn : n ≤ 60) (hcb : ∀ j, cb j < 256) (hq : qm_Qu E f0 f a n cb bg) : gh_M l y_Qu_findsParts b_Qu_findsParts 1 (some .boolean) E sz [.ref a] f { frames := 20, cells := 0, slots := 0, locals := 480 } (fun r g => r = some (.int (gh_bi (decide ((qy_run cb n 13 0 bg).1 = some n)))) ∧ qm_Qu E f0 g a n cb (qy_run cb n 13 0 bg).2 ∧ gh_fr f g (fun b => f0 b = none)) := by
  obtain ⟨cd, bga, n1, n2, hne, h1, h2, h3⟩ := hq
  refine gh_weak (c_Qu_findsParts l E sz f a cd bga n cb bg hn hcb h1 h2 h3 hne) (fun r g h => ?_)
  obtain ⟨hr, g1, hfr⟩ := h
  exact ⟨hr, ⟨cd, bga, n1, n2, hne, hfr.at1 h1 (gh_nek h1 h3 (show (2 : Nat) ≠ 100 by decide)), hfr.at1 h2 hne, g1⟩, hfr.wide (fun b hb => by rw [List.mem_singleton.mp hb]; exact n2)⟩
