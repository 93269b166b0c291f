/-! Numbers that are naturals, truths, the class's own table, frames of two cells. -/
theorem gq_eq {a b : Nat} (ha : a < 2 ^ 31) (hb : b < 2 ^ 31) : (nI a = nI b) = (a = b) := propext (nI_eq ha hb)
theorem gq_le {a b : Nat} (ha : a < 2 ^ 31) (hb : b < 2 ^ 31) : (nI a ≤ nI b) = (a ≤ b) := propext (nI_leI ha hb)
theorem gq_lt {a b : Nat} (ha : a < 2 ^ 31) (hb : b < 2 ^ 31) : (nI a < nI b) = (a < b) := propext (nI_ltI ha hb)
def gh_bi (b : Bool) : Int32 := if b then 1 else 0
theorem gh_bi_0 {b : Bool} (h : gh_bi b = 0) : b = false := by cases b <;> simp [gh_bi] at h ⊢
theorem gh_bi_1 {b : Bool} (h : ¬ gh_bi b = 0) : b = true := by cases b <;> simp [gh_bi] at h ⊢
section GM
variable {p : Program} {l : Launch} {e : Env} {R : Room} {s : State} {m : MethodId} {args : Array Value} {below : List Frame} {meth : Method} {c : Code} {H : Heap} {locs : List Loc} {cells slots : Nat} {Q : State → Prop}
variable {cc : ByteArray} {pc : Nat} {ls : Array Slot} {rest : List Value} {E : gh_E} {A : Nat → Prop} {f : gh_F} {own : String} {nL : Nat}
theorem gn_iadd (hx : p.tables.exec = Jvm.exec) (hb : c.code = cc) {a b : Nat} (hdg : decode cc pc = .ok (.iadd, 1)) (k : W p l e R s m args below meth c H locs cells slots Q (F0 m (pc + 1) ls (.int (nI (a + b)) :: rest))) : W p l e R s m args below meth c H locs cells slots Q (F0 m pc ls (.int (nI b) :: .int (nI a) :: rest)) :=
  lv_iadd hx hb hdg (by rw [nI_add]; exact k)
theorem gn_isub (hx : p.tables.exec = Jvm.exec) (hb : c.code = cc) {a b : Nat} (h : b ≤ a) (hdg : decode cc pc = .ok (.isub, 1)) (k : W p l e R s m args below meth c H locs cells slots Q (F0 m (pc + 1) ls (.int (nI (a - b)) :: rest))) : W p l e R s m args below meth c H locs cells slots Q (F0 m pc ls (.int (nI b) :: .int (nI a) :: rest)) :=
  lv_isub hx hb hdg (by rw [pk_sub h]; exact k)
theorem gn_imul (hx : p.tables.exec = Jvm.exec) (hb : c.code = cc) {a b : Nat} (hdg : decode cc pc = .ok (.imul, 1)) (k : W p l e R s m args below meth c H locs cells slots Q (F0 m (pc + 1) ls (.int (nI (a * b)) :: rest))) : W p l e R s m args below meth c H locs cells slots Q (F0 m pc ls (.int (nI b) :: .int (nI a) :: rest)) :=
  lv_imul hx hb hdg (by rw [pk_mul]; exact k)
def qy_parts (k : Nat) : Nat := ([0, 0, 0, 0, 0, 0, 0, 0, 2, 2, 2, 3, 1, 1, 3, 0, 1, 0, 0, 0, 0, 0, 2, 2, 2, 2, 2] : List Nat).getD k 0
theorem qy_parts_ok : ∀ k, k < 27 → gh_parts k = nI (qy_parts k) := by decide +kernel
theorem qy_parts_le : ∀ k, k < 27 → qy_parts k ≤ 3 := by decide +kernel
theorem gn_pald (C : gh_C E A p s m args c cc own nL) (V : gh_V E A f s H locs) {i : Nat} (hi : i < 27) (hdg : decode cc pc = .ok (.iaload, 1))
    (kk : W p l e R s m args below meth c H locs cells slots Q (F0 m (pc + 1) ls (.int (nI (qy_parts i)) :: rest))) : W p l e R s m args below meth c H locs cells slots Q (F0 m pc ls (.int (nI i) :: .ref (E.2.2.2 0) :: rest)) :=
  va_ti C.1 C.2.1 (C.2.2.2.2.2.2.2.1.2.1.narrow C.2.2.2.2.2.2.2.2.2) V.2 (vp_in_nI hi (by decide)) (v := .int (nI (qy_parts i))) (by rw [nI_clamp (by omega)]; exact congrArg Value.int (qy_parts_ok i hi)) hdg kk
theorem gn_plen (C : gh_C E A p s m args c cc own nL) (V : gh_V E A f s H locs) (hdg : decode cc pc = .ok (.arraylength, 1))
    (kk : W p l e R s m args below meth c H locs cells slots Q (F0 m (pc + 1) ls (.int (nI 27) :: rest))) : W p l e R s m args below meth c H locs cells slots Q (F0 m pc ls (.ref (E.2.2.2 0) :: rest)) :=
  va_tlen C.1 C.2.1 (C.2.2.2.2.2.2.2.1.2.1.narrow C.2.2.2.2.2.2.2.2.2) V.2 rfl hdg kk
end GM
theorem gh_fr.tr2 {f g k : gh_F} {M : Nat → Prop} {q r : Nat} (h : gh_fr f g M) (h2 : gh_fr g k (fun b => b ∈ ([q, r] : List Nat))) (hq : M q ∨ f q = none) (hr : M r ∨ f r = none) : gh_fr f k M := h.tr h2 (fun b e hb z => by
  rcases List.mem_cons.mp z with z | z
  · subst z
    rcases hq with hq | hq
    · exact hq
    · rw [hq] at hb; cases hb
  · have hz : b = r := List.mem_singleton.mp z
    subst hz
    rcases hr with hr | hr
    · exact hr
    · rw [hr] at hb; cases hb)
theorem gh_fr.at2 {f g : gh_F} {q r b : Nat} {e : va_E} (h : gh_fr f g (fun b => b ∈ ([q, r] : List Nat))) (hb : f b = some e) (hn : b ≠ q) (hr : b ≠ r) : g b = some e := h.at hb (fun z => by
  rcases List.mem_cons.mp z with z | z
  · exact hn z
  · exact hr (List.mem_singleton.mp z))
/-- the bytes of a query: which part, and how many bytes it takes -/
def qy_let (k : Nat) : Bool := k == 1 || k == 6 || k == 16
def qy_num (k : Nat) : Bool := k == 2 || k == 5
def qy_has (cb : Nat → Nat) (n i : Nat) : Bool := if qy_let (cb i) then decide (i + 1 < n) && (decide (97 ≤ cb (i + 1)) && decide (cb (i + 1) ≤ 122)) else !qy_num (cb i) || decide (i + 1 < n)
theorem upd_nI {cb : Nat → Nat} {n b : Nat} : upd (fun j => nI (cb j)) n (nI b) = fun j => nI (va_up cb n b j) := by
  funext j
  by_cases h : j = n
  · subst h; rw [pk_us, va_up_s]
  · rw [pk_un h, va_up_n h]
