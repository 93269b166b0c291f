/-! Values without a heap: a label for each path of item numbers; what a Value of the class shows. -/
abbrev vt_L : Type := Nat × Int64 × List Int32 × List (List Int32) × Nat × Nat × Nat
abbrev vt : Type := List Nat → vt_L
def vt_k (X : vt) : Nat := (X []).1
def vt_n (X : vt) : Int64 := (X []).2.1
def vt_l (X : vt) : List Int32 := (X []).2.2.1
def vt_q (X : vt) : List (List Int32) := (X []).2.2.2.1
def vt_c (X : vt) : Nat := (X []).2.2.2.2.1
def vt_w (X : vt) : Nat := (X []).2.2.2.2.2.1
def vt_h (X : vt) : Nat := (X []).2.2.2.2.2.2
def vt_s (X : vt) (i : Nat) : vt := fun p => X (i :: p)
/-- null, false, true -/
def vt_0 (k : Nat) : vt := fun _ => (k, 0, [], [], 0, 1, 0)
def vt_i (n : Int64) : vt := fun _ => (3, n, [], [], 0, 1, 0)
def vt_t (L : List Int32) : vt := fun _ => (4, 0, L, [], 0, 1, 0)
def vt_wsum : List vt → Nat
  | [] => 1
  | x :: r => vt_wsum r + vt_w x
def vt_hmax : List vt → Nat
  | [] => 0
  | x :: r => max (vt_hmax r) (vt_h x + 1)
def vt_m (k : Nat) (ks : List (List Int32)) (xs : List vt) : vt := fun p => match p with
  | [] => (k, 0, [], ks, xs.length, vt_wsum xs, vt_hmax xs)
  | i :: p => (xs.getD i (vt_0 0)) p
/-- an array of letters: the class's own empty one, or one of the run's -/
def lt_A (E : gh_E) (P : Nat → Prop) (f : gh_F) (a : Nat) (L : List Int32) : Prop := (a = E.2.2.2 1 ∧ L = []) ∨ (P a ∧ ∃ g : Nat → Int32, f a = some (.inl (E.2.2.1 2, L.length, .inl g)) ∧ ∀ j, j < L.length → g j = L.getD j 0)
theorem lt_A.keep {E : gh_E} {P M : Nat → Prop} {f g : gh_F} {a : Nat} {L : List Int32} (h : lt_A E P f a L) (hfr : gh_fr f g M) (hM : ∀ b, M b → ¬ P b) : lt_A E P g a L := by
  rcases h with h | ⟨hp, x, h1, h2⟩
  · exact Or.inl h
  · exact Or.inr ⟨hp, x, hfr.at h1 (fun z => hM a z hp), h2⟩
/-- one of the run's own -/
def lt_S (E : gh_E) (P : Nat → Prop) (f : gh_F) (a : Nat) (L : List Int32) : Prop := P a ∧ ∃ g : Nat → Int32, f a = some (.inl (E.2.2.1 2, L.length, .inl g)) ∧ ∀ j, j < L.length → g j = L.getD j 0
theorem lt_S.keep {E : gh_E} {P M : Nat → Prop} {f g : gh_F} {a : Nat} {L : List Int32} (h : lt_S E P f a L) (hfr : gh_fr f g M) (hM : ∀ b, M b → ¬ P b) : lt_S E P g a L := by
  obtain ⟨hp, x, h1, h2⟩ := h
  exact ⟨hp, x, hfr.at h1 (fun z => hM a z hp), h2⟩
theorem lt_S.A {E : gh_E} {P : Nat → Prop} {f : gh_F} {a : Nat} {L : List Int32} (h : lt_S E P f a L) : lt_A E P f a L := Or.inr h
/-- a string's Value -/
def cv_S (E : gh_E) (P : Nat → Prop) (f : gh_F) (a : Nat) (L : List Int32) : Prop := ∃ (la ka ia : Nat) (gk gi : Nat → Option Nat), (P a ∧ P ka ∧ P ia) ∧ f a = some (.inr (6, [.int (nI 4), .long 0, .ref la, .ref ka, .ref ia, .int (nI 1), .int (nI 0)])) ∧ lt_S E P f la L ∧ f ka = some (.inl (E.2.2.1 4, 0, .inr (.inr (.inr (.inr gk))))) ∧ f ia = some (.inl (E.2.2.1 4, 0, .inr (.inr (.inr (.inr gi)))))
theorem cv_S.keep {E : gh_E} {P M : Nat → Prop} {f g : gh_F} {a : Nat} {L : List Int32} (h : cv_S E P f a L) (hfr : gh_fr f g M) (hM : ∀ b, M b → ¬ P b) : cv_S E P g a L := by
  obtain ⟨la, ka, ia, gk, gi, ⟨p1, p2, p3⟩, h0, h1, h2, h3⟩ := h
  exact ⟨la, ka, ia, gk, gi, ⟨p1, p2, p3⟩, hfr.at h0 (fun z => hM _ z p1), h1.keep hfr hM, hfr.at h2 (fun z => hM _ z p2), hfr.at h3 (fun z => hM _ z p3)⟩
/-- the Value at a shows X; n: a bound on the nesting -/
def cv (E : gh_E) (P : Nat → Prop) (f : gh_F) : Nat → Nat → vt → Prop
  | 0, _, _ => False
  | n + 1, a, X => ∃ (la ka ia : Nat) (gk gi : Nat → Option Nat) (K B : Nat → Nat), (P a ∧ P ka ∧ P ia) ∧ f a = some (.inr (6, [.int (nI (vt_k X)), .long (vt_n X), .ref la, .ref ka, .ref ia, .int (nI (vt_w X)), .int (nI (vt_h X))])) ∧ (lt_A E P f la (vt_l X) ∧ (vt_k X = 4 → lt_S E P f la (vt_l X))) ∧ f ka = some (.inl (E.2.2.1 4, (vt_q X).length, .inr (.inr (.inr (.inr gk))))) ∧ f ia = some (.inl (E.2.2.1 4, vt_c X, .inr (.inr (.inr (.inr gi))))) ∧ (∀ j, j < (vt_q X).length → gk j = some (K j) ∧ cv_S E P f (K j) ((vt_q X).getD j [])) ∧ ∀ j, j < vt_c X → gi j = some (B j) ∧ cv E P f n (B j) (vt_s X j)
theorem cv_o {E : gh_E} {P : Nat → Prop} {f : gh_F} {n a : Nat} {X : vt} : cv E P f (n + 1) a X ↔ ∃ (la ka ia : Nat) (gk gi : Nat → Option Nat) (K B : Nat → Nat), (P a ∧ P ka ∧ P ia) ∧ f a = some (.inr (6, [.int (nI (vt_k X)), .long (vt_n X), .ref la, .ref ka, .ref ia, .int (nI (vt_w X)), .int (nI (vt_h X))])) ∧ (lt_A E P f la (vt_l X) ∧ (vt_k X = 4 → lt_S E P f la (vt_l X))) ∧ f ka = some (.inl (E.2.2.1 4, (vt_q X).length, .inr (.inr (.inr (.inr gk))))) ∧ f ia = some (.inl (E.2.2.1 4, vt_c X, .inr (.inr (.inr (.inr gi))))) ∧ (∀ j, j < (vt_q X).length → gk j = some (K j) ∧ cv_S E P f (K j) ((vt_q X).getD j [])) ∧ ∀ j, j < vt_c X → gi j = some (B j) ∧ cv E P f n (B j) (vt_s X j) := Iff.rfl
theorem cv.keep {E : gh_E} {P M : Nat → Prop} {f g : gh_F} (hfr : gh_fr f g M) (hM : ∀ b, M b → ¬ P b) : ∀ {n a : Nat} {X : vt}, cv E P f n a X → cv E P g n a X := by
  intro n
  induction n with
  | zero => intro a X h; exact h
  | succ n ih =>
    intro a X h
    obtain ⟨la, ka, ia, gk, gi, K, B, ⟨p1, p2, p3⟩, h0, h1, h2, h3, h4, h5⟩ := h
    exact ⟨la, ka, ia, gk, gi, K, B, ⟨p1, p2, p3⟩, hfr.at h0 (fun z => hM _ z p1), ⟨h1.1.keep hfr hM, fun z => (h1.2 z).keep hfr hM⟩, hfr.at h2 (fun z => hM _ z p2), hfr.at h3 (fun z => hM _ z p3), fun j hj => ⟨(h4 j hj).1, (h4 j hj).2.keep hfr hM⟩, fun j hj => ⟨(h5 j hj).1, ih (h5 j hj).2⟩⟩
theorem cv.up {E : gh_E} {P : Nat → Prop} {f : gh_F} : ∀ {n a : Nat} {X : vt}, cv E P f n a X → cv E P f (n + 1) a X := by
  intro n
  induction n with
  | zero => intro a X h; exact h.elim
  | succ n ih =>
    intro a X h
    obtain ⟨la, ka, ia, gk, gi, K, B, hp, h0, h1, h2, h3, h4, h5⟩ := h
    exact ⟨la, ka, ia, gk, gi, K, B, hp, h0, h1, h2, h3, h4, fun j hj => ⟨(h5 j hj).1, ih (h5 j hj).2⟩⟩
theorem cv.le {E : gh_E} {P : Nat → Prop} {f : gh_F} {n m a : Nat} {X : vt} (h : cv E P f n a X) (hm : n ≤ m) : cv E P f m a X := by
  induction hm with
  | refl => exact h
  | step _ ih => exact ih.up
theorem cv_S.cv {E : gh_E} {P : Nat → Prop} {f : gh_F} {a : Nat} {L : List Int32} (h : cv_S E P f a L) : cv E P f 1 a (vt_t L) := by
  obtain ⟨la, ka, ia, gk, gi, hp, h0, h1, h2, h3⟩ := h
  exact ⟨la, ka, ia, gk, gi, fun _ => 0, fun _ => 0, hp, h0, ⟨h1.A, fun _ => h1⟩, h2, h3, fun j hj => absurd hj (Nat.not_lt_zero j), fun j hj => absurd hj (Nat.not_lt_zero j)⟩
section LT
variable {p : Program} {l : Launch} {e : Env} {R : Room} {s : State} {m : MethodId} {args : Array Value} {below : List Frame} {meth : Method} {c : Code} {H : Heap} {locs : List Loc} {cells slots : Nat} {Q : State → Prop}
variable {cc : ByteArray} {pc : Nat} {ls : Array Slot} {rest : List Value} {E : gh_E} {A P : Nat → Prop} {f : gh_F} {own : String} {nL : Nat}
theorem lt_len (C : gh_C E A p s m args c cc own nL) (V : gh_V E A f s H locs) {a : Nat} {L : List Int32} (h : lt_A E P f a L) (hdg : decode cc pc = .ok (.arraylength, 1))
    (kk : W p l e R s m args below meth c H locs cells slots Q (F0 m (pc + 1) ls (.int (nI L.length) :: rest))) : W p l e R s m args below meth c H locs cells slots Q (F0 m pc ls (.ref a :: rest)) := by
  rcases h with ⟨rfl, rfl⟩ | ⟨_, g, h1, _⟩
  · exact va_tlen C.1 C.2.1 (C.2.2.2.2.2.2.2.1.2.2.2.1.narrow C.2.2.2.2.2.2.2.2.2) V.2 rfl hdg kk
  · exact gh_alen (t0 := 2) C V rfl h1 (v := nI L.length) rfl hdg kk
theorem lt_ld (C : gh_C E A p s m args c cc own nL) (V : gh_V E A f s H locs) {a i : Nat} {L : List Int32} (h : lt_A E P f a L) (hi : i < L.length) (hn : L.length < 2 ^ 31) (hdg : decode cc pc = .ok (.caload, 1))
    (kk : W p l e R s m args below meth c H locs cells slots Q (F0 m (pc + 1) ls (.int (L.getD i 0) :: rest))) : W p l e R s m args below meth c H locs cells slots Q (F0 m pc ls (.int (nI i) :: .ref a :: rest)) := by
  rcases h with ⟨rfl, rfl⟩ | ⟨_, g, h1, h2⟩
  · exact absurd hi (Nat.not_lt_zero i)
  · exact gn_cald C V h1 hi hn hdg (by rw [h2 i hi]; exact kk)
end LT
/-- the order of two rows of letters, as both sides find it -/
def vt_cmp (X Y : List Int32) : Nat → Nat → Int32
  | 0, _ => nI X.length - nI Y.length
  | n + 1, i => if i < Y.length then (if X.getD i 0 = Y.getD i 0 then vt_cmp X Y n (i + 1) else X.getD i 0 - Y.getD i 0) else nI X.length - nI Y.length
def vt_ord (X Y : List Int32) : Int32 := vt_cmp X Y X.length 0
/-- the place of a key among keys, from k on -/
def vt_fd (Q : List (List Int32)) (K : List Int32) : Nat → Nat → Option Nat
  | 0, _ => none
  | n + 1, k => if vt_ord (Q.getD k []) K = 0 then some k else vt_fd Q K n (k + 1)
def vt_find (Q : List (List Int32)) (K : List Int32) : Option Nat := vt_fd Q K Q.length 0
def vt_oi (o : Option Nat) : Int32 := match o with
  | none => -1
  | some k => nI k
