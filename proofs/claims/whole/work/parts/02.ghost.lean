/-! The ghost heap: a partial map from addresses (all in a set A) to what lies there. Every row of the walk reads and writes this map alone. -/
abbrev gh_F : Type := Nat → Option va_E
def gh_u (f : gh_F) (a : Nat) (e : va_E) : gh_F := fun b => if b = a then some e else f b
theorem gh_us {f : gh_F} {a : Nat} {e : va_E} : gh_u f a e a = some e := by simp [gh_u]
theorem gh_un {f : gh_F} {a b : Nat} {e : va_E} (h : b ≠ a) : gh_u f a e b = f b := by simp [gh_u, h]
/-- the heap holds the map -/
def gh_H (D : va_G) (cl : List vw_C) (A : Nat → Prop) (f : gh_F) (H : Heap) : Prop := ∀ (a : Nat) (e : va_E), f a = some e → A a ∧ va_at D cl (a, e) H
def gh_l (f : gh_F) (n : Nat) : va_W := (List.range n).filterMap (fun a => (f a).map (fun e => (a, e)))
theorem gh_l_get {f : gh_F} {n a : Nat} {e : va_E} (ha : a < n) (h : f a = some e) : ∃ k : Nat, (gh_l f n)[k]? = some (a, e) := by
  have hm : (a, e) ∈ gh_l f n := List.mem_filterMap.mpr ⟨a, List.mem_range.mpr ha, by rw [h]; rfl⟩
  obtain ⟨k, hk⟩ := List.getElem?_of_mem hm
  exact ⟨k, hk⟩
theorem gh_l_mem {f : gh_F} {n k : Nat} {q : Nat × va_E} (h : (gh_l f n)[k]? = some q) : f q.1 = some q.2 := by
  obtain ⟨a, -, ha⟩ := List.mem_filterMap.mp (List.mem_of_getElem? h)
  cases hf : f a with
  | none => rw [hf] at ha; cases ha
  | some e => rw [hf] at ha; cases ha; exact hf
theorem gh_l_sorted (f : gh_F) (n : Nat) : (gh_l f n).Pairwise (fun p q => p.1 < q.1) := by
  unfold gh_l
  rw [List.pairwise_filterMap]
  refine List.Pairwise.imp ?_ (List.pairwise_lt_range (n := n))
  intro a b hab p hp q hq
  cases hfa : f a with
  | none => rw [hfa] at hp; cases hp
  | some e =>
    cases hfb : f b with
    | none => rw [hfb] at hq; cases hq
    | some e' => rw [hfa] at hp; rw [hfb] at hq; cases hp; cases hq; exact hab
theorem gh_l_inj {f : gh_F} {n i j : Nat} {p q : Nat × va_E} (hi : (gh_l f n)[i]? = some p) (hj : (gh_l f n)[j]? = some q) (h : p.1 = q.1) : i = j := by
  have hs := List.pairwise_iff_getElem.mp (gh_l_sorted f n)
  obtain ⟨hi1, hi2⟩ := List.getElem?_eq_some_iff.mp hi
  obtain ⟨hj1, hj2⟩ := List.getElem?_eq_some_iff.mp hj
  rcases Nat.lt_trichotomy i j with hl | hl | hl
  · have := hs i j hi1 hj1 hl
    rw [hi2, hj2] at this
    omega
  · exact hl
  · have := hs j i hj1 hi1 hl
    rw [hi2, hj2] at this
    omega
theorem gh_H.lt {D : va_G} {cl : List vw_C} {A : Nat → Prop} {f : gh_F} {H : Heap} (h : gh_H D cl A f H) {a : Nat} {e : va_E} (ha : f a = some e) : a < H.size := (h a e ha).2.lt
theorem gh_H.P {D : va_G} {cl : List vw_C} {A : Nat → Prop} {f : gh_F} {H : Heap} (h : gh_H D cl A f H) : va_P D cl (gh_l f H.size) H := fun _ q hk => (h q.1 q.2 (gh_l_mem hk)).2
theorem gh_H.D {D : va_G} {cl : List vw_C} {A : Nat → Prop} {f : gh_F} {H : Heap} (h : gh_H D cl A f H) : va_D A (gh_l f H.size) :=
  ⟨fun _ _ _ _ hi hj e => gh_l_inj hi hj e, fun _ q hk => (h q.1 q.2 (gh_l_mem hk)).1⟩
/-- one cell alone, to be read -/
theorem gh_H.one {D : va_G} {cl : List vw_C} {A : Nat → Prop} {f : gh_F} {H : Heap} (h : gh_H D cl A f H) {a : Nat} {e : va_E} (ha : f a = some e) : va_P D cl [(a, e)] H := by
  intro k q hk
  cases k with
  | zero => cases hk; exact (h a e ha).2
  | succ k => simp at hk
theorem gh_H.set {D : va_G} {cl : List vw_C} {A : Nat → Prop} {n : Nat} {f : gh_F} {H H1 : Heap} (h : gh_H D cl A f H) (hn : n = H.size) {a k : Nat} {e e1 : va_E} (hk : (gh_l f n)[k]? = some (a, e)) (hP : va_P D cl ((gh_l f n).set k (a, e1)) H1) : gh_H D cl A (gh_u f a e1) H1 := by
  subst hn
  have hl := (List.getElem?_eq_some_iff.mp hk).1
  intro b e2 hb
  by_cases hba : b = a
  · subst hba
    rw [gh_us] at hb
    cases hb
    exact ⟨(h b e (gh_l_mem hk)).1, hP k _ (List.getElem?_set_self hl)⟩
  · rw [gh_un hba] at hb
    obtain ⟨j, hj⟩ := gh_l_get (h.lt hb) hb
    have hjk : k ≠ j := fun z => by
      subst z
      cases hk.symm.trans hj
      exact hba rfl
    exact ⟨(h b e2 hb).1, hP j _ (by rw [List.getElem?_set_ne hjk]; exact hj)⟩
theorem gh_H.push {D : va_G} {cl : List vw_C} {A : Nat → Prop} {n : Nat} {f : gh_F} {H H1 : Heap} (h : gh_H D cl A f H) (hn : n = H.size) {q : Nat} {e1 : va_E} (hP : va_P D cl (gh_l f n ++ [(q, e1)]) H1) (hD : va_D A (gh_l f n ++ [(q, e1)])) : f q = none ∧ A q ∧ gh_H D cl A (gh_u f q e1) H1 := by
  subst hn
  have hlast : (gh_l f H.size ++ [(q, e1)])[(gh_l f H.size).length]? = some (q, e1) := by simp
  have hq : A q := hD.2 _ _ hlast
  have old : ∀ (b : Nat) (e2 : va_E), f b = some e2 → ∃ j : Nat, j < (gh_l f H.size).length ∧ (gh_l f H.size ++ [(q, e1)])[j]? = some (b, e2) := by
    intro b e2 hb
    obtain ⟨j, hj⟩ := gh_l_get (h.lt hb) hb
    have hjl := (List.getElem?_eq_some_iff.mp hj).1
    exact ⟨j, hjl, by rw [List.getElem?_append_left hjl]; exact hj⟩
  have hfq : f q = none := by
    cases hf : f q with
    | none => rfl
    | some e2 =>
      obtain ⟨j, hjl, hj⟩ := old q e2 hf
      have := hD.1 _ _ _ _ hj hlast rfl
      omega
  refine ⟨hfq, hq, fun b e2 hb => ?_⟩
  by_cases hbq : b = q
  · subst hbq
    rw [gh_us] at hb
    cases hb
    exact ⟨hq, hP _ _ hlast⟩
  · rw [gh_un hbq] at hb
    obtain ⟨j, -, hj⟩ := old b e2 hb
    exact ⟨(h b e2 hb).1, hP _ _ hj⟩
theorem gh_H.kept {D : va_G} {cl : List vw_C} {A : Nat → Prop} {f : gh_F} {H H1 : Heap} (h : gh_H D cl A f H) (hq : ∀ a : Nat, a < H.size → H1[a]? = H[a]?) : gh_H D cl A f H1 := fun a e ha => ⟨(h a e ha).1, (h a e ha).2.kept (hq a (h.lt ha))⟩
theorem gh_H.into {D : va_G} {cl : List vw_C} {A B : Nat → Prop} {f : gh_F} {H : Heap} (h : gh_H D cl A f H) (hAB : ∀ a e, f a = some e → A a → B a) : gh_H D cl B f H := fun a e ha => ⟨hAB a e ha (h a e ha).1, (h a e ha).2⟩
/-- what a method may write: the cells that it was given, and those that come after -/
def gh_Fr (f : gh_F) (sz : Nat) : Nat → Prop := fun q => (∃ e : va_E, f q = some e) ∨ sz ≤ q
