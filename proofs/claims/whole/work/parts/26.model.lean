/-! The model: one object, its arrays by the number of their field; S: the numbers, I: the int (and boolean) arrays, J: the long arrays. Numbers of fields as javap lists them. -/
def mo_K (k : Nat) : Nat := ([9, 0, 1, 0, 0, 0, 1, 1, 1, 0, 0, 9, 9, 0, 0, 0, 9, 9, 9, 0, 9, 9, 0, 0, 0, 0, 3, 8, 9, 0, 9, 0, 0, 0, 0, 0, 0, 0, 0, 0, 0, 0, 0, 0, 0, 9, 9, 9, 9, 9, 0, 9, 0, 0, 9, 9, 9, 9, 0, 0] : List Nat).getD k 9
def mo_N (k : Nat) : Nat := ([0, 760, 760, 760, 760, 760, 760, 760, 760, 760, 8800, 0, 0, 240, 32, 32, 0, 0, 0, 120, 0, 0, 128, 128, 8, 8, 8, 0, 0, 60, 0, 180, 80, 60, 180, 60, 60, 60, 60, 60, 60, 960, 540, 540, 16, 0, 0, 0, 0, 0, 16, 0, 10, 10, 0, 0, 0, 0, 160, 160] : List Nat).getD k 0
def mo_fld (ad : Nat → Nat) (S : Nat → Int32) (k : Nat) : Value := if mo_K k < 8 then .ref (ad k) else .int (S k)
def mo_ob (ad : Nat → Nat) (S : Nat → Int32) : va_E := .inr (9, (List.range 60).map (mo_fld ad S))
def mo_ar (E : gh_E) (I : Nat → Nat → Int32) (J : Nat → Nat → Int64) (k : Nat) : va_E := if mo_K k = 1 then .inl (E.2.2.1 1, mo_N k, .inr (.inl (J k))) else .inl (E.2.2.1 (mo_K k), mo_N k, .inl (I k))
def mo_R (E : gh_E) (f : gh_F) (a : Nat) (ad : Nat → Nat) (S : Nat → Int32) (I : Nat → Nat → Int32) (J : Nat → Nat → Int64) : Prop :=
  f a = some (mo_ob ad S) ∧ (∀ k, k < 60 → mo_K k < 8 → f (ad k) = some (mo_ar E I J k)) ∧ ∀ j k, j < 60 → k < 60 → mo_K j < 8 → mo_K k < 8 → ad j = ad k → j = k
def mo_M (a : Nat) (ad : Nat → Nat) : Nat → Prop := fun b => b = a ∨ ∃ k, k < 60 ∧ mo_K k < 8 ∧ b = ad k
/-- where a walk in the model is: f0 the ghost heap at the method's entry -/
def mo_X (E : gh_E) (f0 f : gh_F) (a : Nat) (ad : Nat → Nat) (S : Nat → Int32) (I : Nat → Nat → Int32) (J : Nat → Nat → Int64) : Prop := mo_R E f a ad S I J ∧ gh_fr f0 f (mo_M a ad)
theorem mo_fget {ad : Nat → Nat} {S : Nat → Int32} {k : Nat} (hk : k < 60) : ((List.range 60).map (mo_fld ad S))[k]? = some (mo_fld ad S k) := by simp [hk]
theorem mo_len {ad : Nat → Nat} {S : Nat → Int32} : ((List.range 60).map (mo_fld ad S)).length = 60 := by simp
theorem mo_arI {E : gh_E} {f : gh_F} {a : Nat} {ad : Nat → Nat} {S : Nat → Int32} {I : Nat → Nat → Int32} {J : Nat → Nat → Int64} (R : mo_R E f a ad S I J) {k t : Nat} (hk : k < 60) (ht : mo_K k = t) (h1 : t ≠ 1) (h8 : t < 8) : f (ad k) = some (.inl (E.2.2.1 t, mo_N k, .inl (I k))) := by
  subst ht
  rw [R.2.1 k hk h8, mo_ar, if_neg h1]
theorem mo_arJ {E : gh_E} {f : gh_F} {a : Nat} {ad : Nat → Nat} {S : Nat → Int32} {I : Nat → Nat → Int32} {J : Nat → Nat → Int64} (R : mo_R E f a ad S I J) {k : Nat} (hk : k < 60) (ht : mo_K k = 1) : f (ad k) = some (.inl (E.2.2.1 1, mo_N k, .inr (.inl (J k)))) := by
  rw [R.2.1 k hk (by omega), mo_ar, if_pos ht]
theorem mo_nea {E : gh_E} {f : gh_F} {a : Nat} {ad : Nat → Nat} {S : Nat → Int32} {I : Nat → Nat → Int32} {J : Nat → Nat → Int64} (R : mo_R E f a ad S I J) {k : Nat} (hk : k < 60) (h8 : mo_K k < 8) : ad k ≠ a := by
  intro h
  have h1 := R.2.1 k hk h8
  rw [h, R.1] at h1
  unfold mo_ar mo_ob at h1
  split at h1 <;> cases h1
theorem mo_R.setI {E : gh_E} {f : gh_F} {a : Nat} {ad : Nat → Nat} {S : Nat → Int32} {I : Nat → Nat → Int32} {J : Nat → Nat → Int64} (R : mo_R E f a ad S I J) {k t : Nat} (hk : k < 60) (ht : mo_K k = t) (h1 : t ≠ 1) (h8 : t < 8) (g : Nat → Int32) : mo_R E (gh_u f (ad k) (.inl (E.2.2.1 t, mo_N k, .inl g))) a ad S (va_up I k g) J := by
  subst ht
  refine ⟨by rw [gh_un (Ne.symm (mo_nea R hk h8))]; exact R.1, fun j hj h8' => ?_, R.2.2⟩
  by_cases hjk : j = k
  · subst hjk
    rw [gh_us, mo_ar, if_neg h1, va_up_s]
  · rw [gh_un (fun z => hjk (R.2.2 j k hj hk h8' h8 z)), R.2.1 j hj h8', mo_ar, mo_ar, va_up_n hjk]
theorem mo_R.setJ {E : gh_E} {f : gh_F} {a : Nat} {ad : Nat → Nat} {S : Nat → Int32} {I : Nat → Nat → Int32} {J : Nat → Nat → Int64} (R : mo_R E f a ad S I J) {k : Nat} (hk : k < 60) (ht : mo_K k = 1) (g : Nat → Int64) : mo_R E (gh_u f (ad k) (.inl (E.2.2.1 1, mo_N k, .inr (.inl g)))) a ad S I (va_up J k g) := by
  have h8 : mo_K k < 8 := by omega
  refine ⟨by rw [gh_un (Ne.symm (mo_nea R hk h8))]; exact R.1, fun j hj h8' => ?_, R.2.2⟩
  by_cases hjk : j = k
  · subst hjk
    rw [gh_us, mo_ar, if_pos ht, va_up_s]
  · rw [gh_un (fun z => hjk (R.2.2 j k hj hk h8' h8 z)), R.2.1 j hj h8', mo_ar, mo_ar, va_up_n hjk]
theorem mo_R.setS {E : gh_E} {f : gh_F} {a : Nat} {ad : Nat → Nat} {S : Nat → Int32} {I : Nat → Nat → Int32} {J : Nat → Nat → Int64} (R : mo_R E f a ad S I J) {k : Nat} (hk : k < 60) (h8 : ¬ mo_K k < 8) (v : Int32) : mo_R E (gh_u f a (.inr (9, ((List.range 60).map (mo_fld ad S)).set k (.int v)))) a ad (va_up S k v) I J := by
  refine ⟨?_, fun j hj h8' => by rw [gh_un (mo_nea R hj h8')]; exact R.2.1 j hj h8', R.2.2⟩
  rw [gh_us, mo_ob]
  congr 3
  apply List.ext_getElem?
  intro j
  by_cases hj : j < 60
  · by_cases hjk : j = k
    · subst hjk
      rw [List.getElem?_set_self (by simp [hj]), mo_fget hj, mo_fld, if_neg h8, va_up_s]
    · rw [List.getElem?_set_ne (Ne.symm hjk), mo_fget hj, mo_fget hj, mo_fld, mo_fld, va_up_n hjk]
  · rw [List.getElem?_eq_none (by simp; omega), List.getElem?_eq_none (by simp; omega)]
section MO
variable {p : Program} {l : Launch} {e : Env} {R : Room} {s : State} {m : MethodId} {args : Array Value} {below : List Frame} {meth : Method} {c : Code} {H : Heap} {locs : List Loc} {cells slots : Nat} {Q : State → Prop}
variable {cc : ByteArray} {pc : Nat} {ls : Array Slot} {rest : List Value} {E : gh_E} {A : Nat → Prop} {f f0 : gh_F} {own : String} {nL : Nat} {a : Nat} {ad : Nat → Nat} {S : Nat → Int32} {I : Nat → Nat → Int32} {J : Nat → Nat → Int64}
theorem mo_getA (C : gh_C E A p s m args c cc own nL) (V : gh_V E A f s H locs) (X : mo_X E f0 f a ad S I J) (k : Nat) (hk : k < 60) (hK : mo_K k < 8) {index : Nat} {name desc : String} {fin : Bool} (hlink : Cond.fieldLink own index R_Mo name desc ∈ g_tbl) (hT : T_Mo k = (R_Mo, name, desc, fin)) (hdg : decode cc pc = .ok (.getfield index, 3))
    (kk : W p l e R s m args below meth c H locs cells slots Q (F0 m (pc + 3) ls (.ref (ad k) :: rest))) : W p l e R s m args below meth c H locs cells slots Q (F0 m pc ls (.ref a :: rest)) :=
  gh_get C V X.1.1 gc_Mo gi_Mo k hk hlink hT (by rw [mo_fget hk, mo_fld, if_pos hK]) hdg kk
theorem mo_getS {v : Int32} (C : gh_C E A p s m args c cc own nL) (V : gh_V E A f s H locs) (X : mo_X E f0 f a ad S I J) (k : Nat) (hk : k < 60) (hK : ¬ mo_K k < 8) (hv : S k = v) {index : Nat} {name desc : String} {fin : Bool} (hlink : Cond.fieldLink own index R_Mo name desc ∈ g_tbl) (hT : T_Mo k = (R_Mo, name, desc, fin)) (hdg : decode cc pc = .ok (.getfield index, 3))
    (kk : W p l e R s m args below meth c H locs cells slots Q (F0 m (pc + 3) ls (.int v :: rest))) : W p l e R s m args below meth c H locs cells slots Q (F0 m pc ls (.ref a :: rest)) :=
  gh_get C V X.1.1 gc_Mo gi_Mo k hk hlink hT (by rw [mo_fget hk, mo_fld, if_neg hK, hv]) hdg kk
theorem mo_putS (C : gh_C E A p s m args c cc own nL) (V : gh_V E A f s H locs) (X : mo_X E f0 f a ad S I J) (k : Nat) (hk : k < 60) (hK : ¬ mo_K k < 8) {index : Nat} {name desc : String} (hlink : Cond.fieldLink own index R_Mo name desc ∈ g_tbl) (hT : T_Mo k = (R_Mo, name, desc, false)) {v : Int32} (hn : narrow (t_Mo k) (.int v) = .int v) (hf : fits (t_Mo k) (.int v) = true) (hdg : decode cc pc = .ok (.putfield index, 3))
    (kk : ∀ (f1 : gh_F) (H1 : Heap) (locs1 : List Loc), gh_V E A f1 s H1 locs1 → mo_X E f0 f1 a ad (va_up S k v) I J → W p l e R s m args below meth c H1 locs1 cells slots Q (F0 m (pc + 3) ls rest)) : W p l e R s m args below meth c H locs cells slots Q (F0 m pc ls (.int v :: .ref a :: rest)) :=
  gh_put C V X.1.1 gc_Mo gi_Mo ty_Mo nm_Mo k hk hlink hT hn hf (by rw [mo_len]; exact hk) hdg (fun H1 locs1 V1 => kk _ H1 locs1 V1 ⟨X.1.setS hk hK v, X.2.put (Or.inl (Or.inl rfl))⟩)
theorem mo_ild (C : gh_C E A p s m args c cc own nL) (V : gh_V E A f s H locs) (X : mo_X E f0 f a ad S I J) {k i n : Nat} (hk : k < 60) (hK : mo_K k = 0) (hN : mo_N k = n) (hi : i < n) (hn : n < 2 ^ 31) (hdg : decode cc pc = .ok (.iaload, 1))
    (kk : W p l e R s m args below meth c H locs cells slots Q (F0 m (pc + 1) ls (.int (I k i) :: rest))) : W p l e R s m args below meth c H locs cells slots Q (F0 m pc ls (.int (nI i) :: .ref (ad k) :: rest)) :=
  gn_iald C V (mo_arI X.1 hk hK (by decide) (by decide)) (by rw [hN]; exact hi) (by rw [hN]; exact hn) hdg kk
theorem mo_zld (C : gh_C E A p s m args c cc own nL) (V : gh_V E A f s H locs) (X : mo_X E f0 f a ad S I J) {k i n : Nat} (hk : k < 60) (hK : mo_K k = 3) (hN : mo_N k = n) (hi : i < n) (hn : n < 2 ^ 31) (hdg : decode cc pc = .ok (.baload, 1))
    (kk : W p l e R s m args below meth c H locs cells slots Q (F0 m (pc + 1) ls (.int (I k i) :: rest))) : W p l e R s m args below meth c H locs cells slots Q (F0 m pc ls (.int (nI i) :: .ref (ad k) :: rest)) :=
  gn_zald C V (mo_arI X.1 hk hK (by decide) (by decide)) (by rw [hN]; exact hi) (by rw [hN]; exact hn) hdg kk
theorem mo_lld (C : gh_C E A p s m args c cc own nL) (V : gh_V E A f s H locs) (X : mo_X E f0 f a ad S I J) {k i n : Nat} (hk : k < 60) (hK : mo_K k = 1) (hN : mo_N k = n) (hi : i < n) (hn : n < 2 ^ 31) (hdg : decode cc pc = .ok (.laload, 1))
    (kk : W p l e R s m args below meth c H locs cells slots Q (F0 m (pc + 1) ls (.long (J k i) :: rest))) : W p l e R s m args below meth c H locs cells slots Q (F0 m pc ls (.int (nI i) :: .ref (ad k) :: rest)) :=
  gn_lald C V (mo_arJ X.1 hk hK) (by rw [hN]; exact hi) (by rw [hN]; exact hn) hdg kk
theorem mo_ist (C : gh_C E A p s m args c cc own nL) (V : gh_V E A f s H locs) (X : mo_X E f0 f a ad S I J) {k i n : Nat} (hk : k < 60) (hK : mo_K k = 0) (hN : mo_N k = n) (hi : i < n) (hn : n < 2 ^ 31) {x : Int32} (hdg : decode cc pc = .ok (.iastore, 1))
    (kk : ∀ (f1 : gh_F) (H1 : Heap) (locs1 : List Loc), gh_V E A f1 s H1 locs1 → mo_X E f0 f1 a ad S (va_up I k (upd (I k) i x)) J → W p l e R s m args below meth c H1 locs1 cells slots Q (F0 m (pc + 1) ls rest)) : W p l e R s m args below meth c H locs cells slots Q (F0 m pc ls (.int x :: .int (nI i) :: .ref (ad k) :: rest)) :=
  gn_iast C V (mo_arI X.1 hk hK (by decide) (by decide)) (by rw [hN]; exact hi) (by rw [hN]; exact hn) hdg (fun H1 locs1 V1 => kk _ H1 locs1 V1 ⟨X.1.setI hk hK (by decide) (by decide) _, X.2.put (Or.inl (Or.inr ⟨k, hk, by omega, rfl⟩))⟩)
theorem mo_zst (C : gh_C E A p s m args c cc own nL) (V : gh_V E A f s H locs) (X : mo_X E f0 f a ad S I J) {k i n : Nat} (hk : k < 60) (hK : mo_K k = 3) (hN : mo_N k = n) (hi : i < n) (hn : n < 2 ^ 31) {x : Int32} (hdg : decode cc pc = .ok (.bastore, 1))
    (kk : ∀ (f1 : gh_F) (H1 : Heap) (locs1 : List Loc), gh_V E A f1 s H1 locs1 → mo_X E f0 f1 a ad S (va_up I k (upd (I k) i (vp_nar .boolean x))) J → W p l e R s m args below meth c H1 locs1 cells slots Q (F0 m (pc + 1) ls rest)) : W p l e R s m args below meth c H locs cells slots Q (F0 m pc ls (.int x :: .int (nI i) :: .ref (ad k) :: rest)) :=
  gn_zast C V (mo_arI X.1 hk hK (by decide) (by decide)) (by rw [hN]; exact hi) (by rw [hN]; exact hn) hdg (fun H1 locs1 V1 => kk _ H1 locs1 V1 ⟨X.1.setI hk hK (by decide) (by decide) _, X.2.put (Or.inl (Or.inr ⟨k, hk, by omega, rfl⟩))⟩)
theorem mo_lst (C : gh_C E A p s m args c cc own nL) (V : gh_V E A f s H locs) (X : mo_X E f0 f a ad S I J) {k i n : Nat} (hk : k < 60) (hK : mo_K k = 1) (hN : mo_N k = n) (hi : i < n) (hn : n < 2 ^ 31) {x : Int64} (hdg : decode cc pc = .ok (.lastore, 1))
    (kk : ∀ (f1 : gh_F) (H1 : Heap) (locs1 : List Loc), gh_V E A f1 s H1 locs1 → mo_X E f0 f1 a ad S I (va_up J k (vp_updL (J k) i x)) → W p l e R s m args below meth c H1 locs1 cells slots Q (F0 m (pc + 1) ls rest)) : W p l e R s m args below meth c H locs cells slots Q (F0 m pc ls (.long x :: .int (nI i) :: .ref (ad k) :: rest)) :=
  gn_last C V (mo_arJ X.1 hk hK) (by rw [hN]; exact hi) (by rw [hN]; exact hn) hdg (fun H1 locs1 V1 => kk _ H1 locs1 V1 ⟨X.1.setJ hk hK _, X.2.put (Or.inl (Or.inr ⟨k, hk, by omega, rfl⟩))⟩)
end MO
