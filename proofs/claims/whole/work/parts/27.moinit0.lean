/-! The model while its constructor lays its arrays: the fields below n stand. -/
def mo_f0 (ad : Nat → Nat) (S : Nat → Int32) (n k : Nat) : Value := if mo_K k < 8 then (if k < n then .ref (ad k) else .null) else .int (S k)
abbrev mo_z (E : gh_E) (k : Nat) : va_E := mo_ar E (fun _ _ => 0) (fun _ _ => 0) k
def mo_R0 (E : gh_E) (f : gh_F) (a : Nat) (ad : Nat → Nat) (S : Nat → Int32) (n : Nat) : Prop :=
  f a = some (.inr (9, (List.range 60).map (mo_f0 ad S n))) ∧ (∀ k, k < n → mo_K k < 8 → f (ad k) = some (mo_z E k)) ∧ ∀ j k, j < n → k < n → mo_K j < 8 → mo_K k < 8 → ad j = ad k → j = k
theorem mo_f0get {ad : Nat → Nat} {S : Nat → Int32} {n k : Nat} (hk : k < 60) : ((List.range 60).map (mo_f0 ad S n))[k]? = some (mo_f0 ad S n k) := by simp [hk]
theorem mo_f0len {ad : Nat → Nat} {S : Nat → Int32} {n : Nat} : ((List.range 60).map (mo_f0 ad S n)).length = 60 := by simp
theorem mo_R0.nea {E : gh_E} {f : gh_F} {a : Nat} {ad : Nat → Nat} {S : Nat → Int32} {n : Nat} (R : mo_R0 E f a ad S n) {k : Nat} (hk : k < n) (h8 : mo_K k < 8) : ad k ≠ a := by
  intro h
  have h1 := R.2.1 k hk h8
  rw [h, R.1] at h1
  unfold mo_z mo_ar at h1
  split at h1 <;> cases h1
/-- an array comes, and its field is laid -/
theorem mo_R0.arr {E : gh_E} {f : gh_F} {a : Nat} {ad : Nat → Nat} {S : Nat → Int32} {n : Nat} (R : mo_R0 E f a ad S n) {k q : Nat} (hk : k < 60) (hnk : n ≤ k) (hsc : ∀ j, j < k → n ≤ j → ¬ mo_K j < 8) (h8 : mo_K k < 8) (hq : f q = none) :
    mo_R0 E (gh_u (gh_u f q (mo_z E k)) a (.inr (9, ((List.range 60).map (mo_f0 ad S n)).set k (.ref q)))) a (va_up ad k q) S (k + 1) := by
  have hqa : a ≠ q := gh_ne0 R.1 hq
  have old : ∀ j, j < k + 1 → j ≠ k → mo_K j < 8 → j < n := fun j h1 h2 h3 => by
    by_cases hj : j < n
    · exact hj
    · exact absurd h3 (hsc j (by omega) (by omega))
  refine ⟨?_, fun j hj h8' => ?_, fun i j hi hj hi8 hj8 hij => ?_⟩
  · rw [gh_us]
    congr 3
    apply List.ext_getElem?
    intro j
    by_cases hj : j < 60
    · by_cases hjk : j = k
      · subst hjk
        rw [List.getElem?_set_self (by simp [hj]), mo_f0get hj, mo_f0, if_pos h8, if_pos (by omega), va_up_s]
      · rw [List.getElem?_set_ne (Ne.symm hjk), mo_f0get hj, mo_f0get hj, mo_f0, mo_f0]
        by_cases hK : mo_K j < 8
        · rw [if_pos hK, if_pos hK, va_up_n hjk]
          by_cases hjn : j < n
          · rw [if_pos hjn, if_pos (by omega)]
          · rw [if_neg hjn, if_neg (fun z => hjn (old j z hjk hK))]
        · rw [if_neg hK, if_neg hK]
    · rw [List.getElem?_eq_none (by simp; omega), List.getElem?_eq_none (by simp; omega)]
  · by_cases hjk : j = k
    · subst hjk
      rw [va_up_s, gh_un (Ne.symm hqa), gh_us]
    · have hjn := old j hj hjk h8'
      have h1 := R.2.1 j hjn h8'
      rw [va_up_n hjk, gh_un (R.nea hjn h8'), gh_un (gh_ne0 h1 hq)]
      exact h1
  · by_cases hik : i = k
    · by_cases hjk : j = k
      · omega
      · subst hik
        rw [va_up_s, va_up_n hjk] at hij
        have h1 := R.2.1 j (old j hj hjk hj8) hj8
        rw [← hij, hq] at h1
        cases h1
    · by_cases hjk : j = k
      · subst hjk
        rw [va_up_s, va_up_n hik] at hij
        have h1 := R.2.1 i (old i hi hik hi8) hi8
        rw [hij, hq] at h1
        cases h1
      · rw [va_up_n hik, va_up_n hjk] at hij
        exact R.2.2 i j (old i hi hik hi8) (old j hj hjk hj8) hi8 hj8 hij
theorem mo_R0.setS {E : gh_E} {f : gh_F} {a : Nat} {ad : Nat → Nat} {S : Nat → Int32} {n : Nat} (R : mo_R0 E f a ad S n) {k : Nat} (hk : k < 60) (h8 : ¬ mo_K k < 8) (v : Int32) : mo_R0 E (gh_u f a (.inr (9, ((List.range 60).map (mo_f0 ad S n)).set k (.int v)))) a ad (va_up S k v) n := by
  refine ⟨?_, fun j hj h8' => by rw [gh_un (R.nea hj h8')]; exact R.2.1 j hj h8', R.2.2⟩
  rw [gh_us]
  congr 3
  apply List.ext_getElem?
  intro j
  by_cases hj : j < 60
  · by_cases hjk : j = k
    · subst hjk
      rw [List.getElem?_set_self (by simp [hj]), mo_f0get hj, mo_f0, if_neg h8, va_up_s]
    · rw [List.getElem?_set_ne (Ne.symm hjk), mo_f0get hj, mo_f0get hj, mo_f0, mo_f0, va_up_n hjk]
  · rw [List.getElem?_eq_none (by simp; omega), List.getElem?_eq_none (by simp; omega)]
theorem mo_R0.full {E : gh_E} {f : gh_F} {a : Nat} {ad : Nat → Nat} {S : Nat → Int32} (R : mo_R0 E f a ad S 60) : mo_R E f a ad S (fun _ _ => 0) (fun _ _ => 0) := by
  refine ⟨?_, R.2.1, R.2.2⟩
  rw [R.1, mo_ob]
  congr 3
section MI
variable {p : Program} {l : Launch} {e : Env} {R : Room} {s : State} {m : MethodId} {args : Array Value} {below : List Frame} {meth : Method} {c : Code} {H : Heap} {locs : List Loc} {cells slots : Nat} {Q : State → Prop}
variable {cc : ByteArray} {pc : Nat} {ls : Array Slot} {rest : List Value} {E : gh_E} {A : Nat → Prop} {f f0 : gh_F} {nL : Nat} {a : Nat} {ad : Nat → Nat} {S : Nat → Int32} {n : Nat}
/-- 'this.x = new t[N]': the array, then the field; the stack holds N over the object -/
theorem mo_lay (C : gh_C E A p s m args c cc R_Mo nL) (V : gh_V E A f s H locs) (hini : meth.name = "<init>") (X : mo_R0 E f a ad S n ∧ gh_fr f0 f (fun b => b ∈ ([a] : List Nat))) (k : Nat) (hk : k < 60) (hnk : n ≤ k) (hsc : ∀ j, j < k → n ≤ j → ¬ mo_K j < 8) (h8 : mo_K k < 8) {atype : ArrayType} {ty : FieldType} (hty : newarray.typeOf atype = ty) (hw : Cond.arrayClass (newarray.typeOf atype) ∈ g_tbl) (hobj : ∀ C, ty ≠ .object C) {t0 N : Nat} {a0 : vp_A} (hz : mo_z E k = .inl (E.2.2.1 t0, a0)) (ht : (gh_ty E.2.2.1)[t0]? = some (E.2.2.1 t0, ty)) (ha : ∀ cA : ClassId, vp_cell cA a0 = arrV cA N (fun _ => defaultValue ty)) {v : Int32} (hv : ¬ v < 0) (hN : v.toNatClampNeg = N) (hbytes : N * componentBytes ty ≤ 536870912) (h1 : cells + 1 ≤ R.cells) (h2 : slots + N ≤ R.slots)
    {index : Nat} {name desc : String} (hlink : Cond.fieldLink R_Mo index R_Mo name desc ∈ g_tbl) (hT : T_Mo k = (R_Mo, name, desc, true)) (hfit : ∀ q, narrow (t_Mo k) (.ref q) = .ref q ∧ fits (t_Mo k) (.ref q) = true) (d1 : decode cc pc = .ok (.newarray atype, 2)) (d2 : decode cc (pc + 2) = .ok (.putfield index, 3))
    (kk : ∀ (q : Nat) (f1 : gh_F) (H1 : Heap) (locs1 : List Loc), f0 q = none → gh_V E A f1 s H1 locs1 → (mo_R0 E f1 a (va_up ad k q) S (k + 1) ∧ gh_fr f0 f1 (fun b => b ∈ ([a] : List Nat))) → W p l e R s m args below meth c H1 locs1 (cells + 1) (slots + N) Q (F0 m (pc + 5) ls rest)) : W p l e R s m args below meth c H locs cells slots Q (F0 m pc ls (.int v :: .ref a :: rest)) := by
  refine gh_newa C V hty hw ht hobj ha hv hN hbytes h1 h2 d1 (fun q H hq V => ?_)
  rw [← hz] at V
  have hne : a ≠ q := gh_ne0 X.1.1 hq
  refine gh_putF C V hini (he := by rw [gh_un hne]; exact X.1.1) gc_Mo gi_Mo ty_Mo nm_Mo k hk hlink hT (hfit q).1 (hfit q).2 (by rw [mo_f0len]; exact hk) d2 (fun H locs V => ?_)
  exact kk q _ H locs (X.2.non hq) V ⟨X.1.arr hk hnk hsc h8 hq, (X.2.put (Or.inr (X.2.non hq))).put (Or.inl (by simp))⟩
theorem mo_sca (C : gh_C E A p s m args c cc R_Mo nL) (V : gh_V E A f s H locs) (X : mo_R0 E f a ad S n ∧ gh_fr f0 f (fun b => b ∈ ([a] : List Nat))) (k : Nat) (hk : k < 60) (h8 : ¬ mo_K k < 8) {index : Nat} {name desc : String} (hlink : Cond.fieldLink R_Mo index R_Mo name desc ∈ g_tbl) (hT : T_Mo k = (R_Mo, name, desc, false)) {v : Int32} (hn : narrow (t_Mo k) (.int v) = .int v) (hf : fits (t_Mo k) (.int v) = true) (hdg : decode cc pc = .ok (.putfield index, 3))
    (kk : ∀ (f1 : gh_F) (H1 : Heap) (locs1 : List Loc), gh_V E A f1 s H1 locs1 → (mo_R0 E f1 a ad (va_up S k v) n ∧ gh_fr f0 f1 (fun b => b ∈ ([a] : List Nat))) → W p l e R s m args below meth c H1 locs1 cells slots Q (F0 m (pc + 3) ls rest)) : W p l e R s m args below meth c H locs cells slots Q (F0 m pc ls (.int v :: .ref a :: rest)) :=
  gh_put C V X.1.1 gc_Mo gi_Mo ty_Mo nm_Mo k hk hlink hT hn hf (by rw [mo_f0len]; exact hk) hdg (fun H1 locs1 V1 => kk _ H1 locs1 V1 ⟨X.1.setS hk h8 v, X.2.put (Or.inl (by simp))⟩)
end MI
theorem mo_nn {f0 : gh_F} {ad : Nat → Nat} {n k q : Nat} (N : ∀ j, j < n → mo_K j < 8 → f0 (ad j) = none) (hsc : ∀ j, j < k → n ≤ j → ¬ mo_K j < 8) (hq : f0 q = none) : ∀ j, j < k + 1 → mo_K j < 8 → f0 (va_up ad k q j) = none := by
  intro j hj h8
  by_cases hjk : j = k
  · subst hjk; rw [va_up_s]; exact hq
  · rw [va_up_n hjk]
    by_cases hjn : j < n
    · exact N j hjn h8
    · exact absurd h8 (hsc j (by omega) (by omega))
