/-! Arrays by natural places; frames behind calls. -/
section GN
variable {p : Program} {l : Launch} {e : Env} {R : Room} {s : State} {m : MethodId} {args : Array Value} {below : List Frame} {meth : Method} {c : Code} {H : Heap} {locs : List Loc} {cells slots : Nat} {Q : State → Prop}
variable {cc : ByteArray} {pc : Nat} {ls : Array Slot} {rest : List Value} {E : gh_E} {A : Nat → Prop} {f : gh_F} {own : String} {nL : Nat}
theorem gn_aald (C : gh_C E A p s m args c cc own nL) (V : gh_V E A f s H locs) {a n t0 i v : Nat} {cA : ClassId} {Cn : String} (ht : (gh_ty E.2.2.1)[t0]? = some (cA, .object Cn)) {g : Nat → Option Nat} (he : f a = some (.inl (cA, n, .inr (.inr (.inr (.inr g)))))) (hi : i < n) (hn : n < 2 ^ 31) (hg : g i = some v) (hdg : decode cc pc = .ok (.aaload, 1))
    (kk : W p l e R s m args below meth c H locs cells slots Q (F0 m (pc + 1) ls (.ref v :: rest))) : W p l e R s m args below meth c H locs cells slots Q (F0 m pc ls (.int (nI i) :: .ref a :: rest)) :=
  gh_aald C V ht he (vp_in_nI hi hn) hdg (by rw [nI_clamp (by omega), hg]; exact kk)
theorem gn_iald (C : gh_C E A p s m args c cc own nL) (V : gh_V E A f s H locs) {a n i : Nat} {g : Nat → Int32} (he : f a = some (.inl (E.2.2.1 0, n, .inl g))) (hi : i < n) (hn : n < 2 ^ 31) (hdg : decode cc pc = .ok (.iaload, 1))
    (kk : W p l e R s m args below meth c H locs cells slots Q (F0 m (pc + 1) ls (.int (g i) :: rest))) : W p l e R s m args below meth c H locs cells slots Q (F0 m pc ls (.int (nI i) :: .ref a :: rest)) :=
  gh_iald C V he (vp_in_nI hi hn) hdg (by rw [nI_clamp (by omega)]; exact kk)
theorem gn_lald (C : gh_C E A p s m args c cc own nL) (V : gh_V E A f s H locs) {a n i : Nat} {g : Nat → Int64} (he : f a = some (.inl (E.2.2.1 1, n, .inr (.inl g)))) (hi : i < n) (hn : n < 2 ^ 31) (hdg : decode cc pc = .ok (.laload, 1))
    (kk : W p l e R s m args below meth c H locs cells slots Q (F0 m (pc + 1) ls (.long (g i) :: rest))) : W p l e R s m args below meth c H locs cells slots Q (F0 m pc ls (.int (nI i) :: .ref a :: rest)) :=
  gh_lald C V he (vp_in_nI hi hn) hdg (by rw [nI_clamp (by omega)]; exact kk)
theorem gn_cald (C : gh_C E A p s m args c cc own nL) (V : gh_V E A f s H locs) {a n i : Nat} {g : Nat → Int32} (he : f a = some (.inl (E.2.2.1 2, n, .inl g))) (hi : i < n) (hn : n < 2 ^ 31) (hdg : decode cc pc = .ok (.caload, 1))
    (kk : W p l e R s m args below meth c H locs cells slots Q (F0 m (pc + 1) ls (.int (g i) :: rest))) : W p l e R s m args below meth c H locs cells slots Q (F0 m pc ls (.int (nI i) :: .ref a :: rest)) :=
  gh_cald C V he (vp_in_nI hi hn) hdg (by rw [nI_clamp (by omega)]; exact kk)
theorem gn_zald (C : gh_C E A p s m args c cc own nL) (V : gh_V E A f s H locs) {a n i : Nat} {g : Nat → Int32} (he : f a = some (.inl (E.2.2.1 3, n, .inl g))) (hi : i < n) (hn : n < 2 ^ 31) (hdg : decode cc pc = .ok (.baload, 1))
    (kk : W p l e R s m args below meth c H locs cells slots Q (F0 m (pc + 1) ls (.int (g i) :: rest))) : W p l e R s m args below meth c H locs cells slots Q (F0 m pc ls (.int (nI i) :: .ref a :: rest)) :=
  gh_zald C V he (vp_in_nI hi hn) hdg (by rw [nI_clamp (by omega)]; exact kk)
theorem gn_iast (C : gh_C E A p s m args c cc own nL) (V : gh_V E A f s H locs) {a n i : Nat} {g : Nat → Int32} (he : f a = some (.inl (E.2.2.1 0, n, .inl g))) {x : Int32} (hi : i < n) (hn : n < 2 ^ 31) (hdg : decode cc pc = .ok (.iastore, 1))
    (kk : ∀ (H1 : Heap) (locs1 : List Loc), gh_V E A (gh_u f a (.inl (E.2.2.1 0, n, .inl (upd g i x)))) s H1 locs1 → W p l e R s m args below meth c H1 locs1 cells slots Q (F0 m (pc + 1) ls rest)) : W p l e R s m args below meth c H locs cells slots Q (F0 m pc ls (.int x :: .int (nI i) :: .ref a :: rest)) :=
  gh_iast C V he (vp_in_nI hi hn) hdg (by rw [nI_clamp (by omega)]; exact kk)
theorem gn_last (C : gh_C E A p s m args c cc own nL) (V : gh_V E A f s H locs) {a n i : Nat} {g : Nat → Int64} (he : f a = some (.inl (E.2.2.1 1, n, .inr (.inl g)))) {x : Int64} (hi : i < n) (hn : n < 2 ^ 31) (hdg : decode cc pc = .ok (.lastore, 1))
    (kk : ∀ (H1 : Heap) (locs1 : List Loc), gh_V E A (gh_u f a (.inl (E.2.2.1 1, n, .inr (.inl (vp_updL g i x))))) s H1 locs1 → W p l e R s m args below meth c H1 locs1 cells slots Q (F0 m (pc + 1) ls rest)) : W p l e R s m args below meth c H locs cells slots Q (F0 m pc ls (.long x :: .int (nI i) :: .ref a :: rest)) :=
  gh_last C V he (vp_in_nI hi hn) hdg (by rw [nI_clamp (by omega)]; exact kk)
theorem gn_cast (C : gh_C E A p s m args c cc own nL) (V : gh_V E A f s H locs) {a n i : Nat} {g : Nat → Int32} (he : f a = some (.inl (E.2.2.1 2, n, .inl g))) {x : Int32} (hi : i < n) (hn : n < 2 ^ 31) (hdg : decode cc pc = .ok (.castore, 1))
    (kk : ∀ (H1 : Heap) (locs1 : List Loc), gh_V E A (gh_u f a (.inl (E.2.2.1 2, n, .inl (upd g i (vp_nar .char x))))) s H1 locs1 → W p l e R s m args below meth c H1 locs1 cells slots Q (F0 m (pc + 1) ls rest)) : W p l e R s m args below meth c H locs cells slots Q (F0 m pc ls (.int x :: .int (nI i) :: .ref a :: rest)) :=
  gh_cast C V he (vp_in_nI hi hn) hdg (by rw [nI_clamp (by omega)]; exact kk)
theorem gn_zast (C : gh_C E A p s m args c cc own nL) (V : gh_V E A f s H locs) {a n i : Nat} {g : Nat → Int32} (he : f a = some (.inl (E.2.2.1 3, n, .inl g))) {x : Int32} (hi : i < n) (hn : n < 2 ^ 31) (hdg : decode cc pc = .ok (.bastore, 1))
    (kk : ∀ (H1 : Heap) (locs1 : List Loc), gh_V E A (gh_u f a (.inl (E.2.2.1 3, n, .inl (upd g i (vp_nar .boolean x))))) s H1 locs1 → W p l e R s m args below meth c H1 locs1 cells slots Q (F0 m (pc + 1) ls rest)) : W p l e R s m args below meth c H locs cells slots Q (F0 m pc ls (.int x :: .int (nI i) :: .ref a :: rest)) :=
  gh_zast C V he (vp_in_nI hi hn) hdg (by rw [nI_clamp (by omega)]; exact kk)
theorem gn_aast (C : gh_C E A p s m args c cc own nL) (V : gh_V E A f s H locs) {a n t0 ci i : Nat} {cA : ClassId} {r : vw_C} (ht : (gh_ty E.2.2.1)[t0]? = some (cA, .object r.1)) {g : Nat → Option Nat} (he : f a = some (.inl (cA, n, .inr (.inr (.inr (.inr g)))))) {v : Nat} {vs : List Value} (hv : f v = some (.inr (ci, vs))) (hc : gh_cl[ci]? = some r) (hi : i < n) (hn : n < 2 ^ 31) (hdg : decode cc pc = .ok (.aastore, 1))
    (kk : ∀ (H1 : Heap) (locs1 : List Loc), gh_V E A (gh_u f a (.inl (cA, n, .inr (.inr (.inr (.inr (va_up g i (some v)))))))) s H1 locs1 → W p l e R s m args below meth c H1 locs1 cells slots Q (F0 m (pc + 1) ls rest)) : W p l e R s m args below meth c H locs cells slots Q (F0 m pc ls (.ref v :: .int (nI i) :: .ref a :: rest)) :=
  gh_aast C V ht he hv hc (vp_in_nI hi hn) hdg (by rw [nI_clamp (by omega)]; exact kk)
end GN
theorem gh_fr.tr1 {f g k : gh_F} {M : Nat → Prop} {q : Nat} (h : gh_fr f g M) (h2 : gh_fr g k (fun b => b ∈ ([q] : List Nat))) (hq : M q ∨ f q = none) : gh_fr f k M := h.tr h2 (fun b e hb z => by
  have hz : b = q := List.mem_singleton.mp z
  subst hz
  rcases hq with hq | hq
  · exact hq
  · rw [hq] at hb; cases hb)
theorem gh_fr.at1 {f g : gh_F} {q b : Nat} {e : va_E} (h : gh_fr f g (fun b => b ∈ ([q] : List Nat))) (hb : f b = some e) (hn : b ≠ q) : g b = some e := h.at hb (fun z => hn (List.mem_singleton.mp z))
theorem va_up_s {α : Type} {f : Nat → α} {k : Nat} {v : α} : va_up f k v k = v := by simp [va_up]
theorem va_up_n {α : Type} {f : Nat → α} {k j : Nat} {v : α} (h : j ≠ k) : va_up f k v j = f j := by simp [va_up, h]
theorem gh_a0i (n : Nat) (ty : FieldType) (h : defaultValue ty = .int 0) (cA : ClassId) : vp_cell cA (n, .inl (fun _ => 0)) = arrV cA n (fun _ => defaultValue ty) := by rw [h]; rfl
theorem gh_a0l (n : Nat) (cA : ClassId) : vp_cell cA (n, .inr (.inl (fun _ => 0))) = arrV cA n (fun _ => defaultValue .long) := rfl
