/-! The text of a value, without a heap: what is written, and what is found in it. -/
def wr_c (wt : Int32) (st : Nat × Int32) (c : Int32) : Nat × Int32 := (st.1 + 1, if nI st.1 = wt then c else st.2)
def wr_l (wt : Int32) : Nat × Int32 → List Int32 → Nat × Int32
  | st, [] => st
  | st, c :: L => wr_l wt (wr_c wt st c) L
theorem wr_l_app {wt : Int32} {L M : List Int32} : ∀ {st : Nat × Int32}, wr_l wt st (L ++ M) = wr_l wt (wr_l wt st L) M := by
  induction L with
  | nil => intro st; rfl
  | cons c L ih => intro st; exact ih
theorem wr_l_len {wt : Int32} {L : List Int32} : ∀ {st : Nat × Int32}, (wr_l wt st L).1 = st.1 + L.length := by
  induction L with
  | nil => intro st; rfl
  | cons c L ih =>
    intro st
    show (wr_l wt (wr_c wt st c) L).1 = st.1 + (L.length + 1)
    rw [ih]
    show st.1 + 1 + L.length = _
    omega
/-- what was written behind the place stays out of it -/
theorem wr_l_past {i : Nat} {L : List Int32} (hi : i < 2 ^ 31) : ∀ {st : Nat × Int32}, i < st.1 → st.1 + L.length < 2 ^ 31 → (wr_l (nI i) st L).2 = st.2 := by
  induction L with
  | nil => intro st _ _; rfl
  | cons c L ih =>
    intro st h1 h2
    have h2 : st.1 + (L.length + 1) < 2 ^ 31 := h2
    show (wr_l (nI i) (wr_c (nI i) st c) L).2 = st.2
    rw [ih (show i < st.1 + 1 by omega) (show st.1 + 1 + L.length < 2 ^ 31 by omega)]
    show (if nI st.1 = nI i then c else st.2) = st.2
    rw [if_neg (fun z => by have := (nI_eq (by omega) hi).mp z; omega)]
/-- the character at place i -/
theorem wr_l_at {i : Nat} {L : List Int32} : ∀ {st : Nat × Int32}, st.1 ≤ i → i < st.1 + L.length → st.1 + L.length < 2 ^ 31 → (wr_l (nI i) st L).2 = L.getD (i - st.1) 0 := by
  induction L with
  | nil => intro st h1 h2 _; exact absurd h2 (by show ¬ i < st.1 + 0; omega)
  | cons c L ih =>
    intro st h1 h2 h3
    have h2 : i < st.1 + (L.length + 1) := h2
    have h3 : st.1 + (L.length + 1) < 2 ^ 31 := h3
    show (wr_l (nI i) (wr_c (nI i) st c) L).2 = _
    by_cases e : i = st.1
    · rw [wr_l_past (by omega) (show i < st.1 + 1 by omega) (show st.1 + 1 + L.length < 2 ^ 31 by omega)]
      show (if nI st.1 = nI i then c else st.2) = _
      rw [if_pos (by rw [e]), show i - st.1 = 0 by omega]
      rfl
    · rw [ih (show st.1 + 1 ≤ i by omega) (show i < st.1 + 1 + L.length by omega) (show st.1 + 1 + L.length < 2 ^ 31 by omega)]
      show L.getD (i - (st.1 + 1)) 0 = _
      rw [show i - st.1 = (i - (st.1 + 1)) + 1 by omega]
      rfl
/-- letters, with a sign before those that want it -/
def wr_e (c : Int32) : List Int32 := if c = 34 ∨ c = 92 then [92, c] else [c]
def wr_s (L : List Int32) : Nat → List Int32
  | 0 => []
  | i + 1 => wr_s L i ++ wr_e (L.getD i 0)
def wr_t (L : List Int32) : List Int32 := [34] ++ wr_s L L.length ++ [34]
/-- digits -/
def wr_d (m : Nat) : Nat → List Int32
  | 0 => []
  | s + 1 => nI (48 + m / 10 ^ s % 10) :: wr_d m s
def wr_n (m : Nat) : Nat → Nat
  | 0 => 0
  | j + 1 => if m / 10 ^ j % 10 ≠ 0 ∨ j = 0 then j + 1 else wr_n m j
def wr_i (n : Int64) : List Int32 := (if n < 0 then [45] else []) ++ wr_d n.toInt.natAbs (wr_n n.toInt.natAbs 19)
/-- the items from i on, m of them -/
def wr_m (g : vt → List Int32) (X : vt) : Nat → Nat → List Int32
  | 0, _ => []
  | m + 1, i => (if i = 0 then [] else [44]) ++ (if vt_k X = 6 then wr_t ((vt_q X).getD i []) ++ [58] else []) ++ g (vt_s X i) ++ wr_m g X m (i + 1)
def wr_v : Nat → vt → List Int32
  | 0, _ => []
  | n + 1, X => if vt_k X = 0 then [110, 117, 108, 108] else if vt_k X = 1 then [102, 97, 108, 115, 101] else if vt_k X = 2 then [116, 114, 117, 101] else if vt_k X = 3 then wr_i (vt_n X) else if vt_k X = 4 then wr_t (vt_l X) else [if vt_k X = 6 then 123 else 91] ++ wr_m (wr_v n) X (vt_c X) 0 ++ [if vt_k X = 6 then 125 else 93]
/-! The model's state while it writes. -/
def wQ (n : Nat) (S : Nat → Int32) (L : List Int32) (S2 : Nat → Int32) : Prop := S2 55 = nI (wr_l (S 56) (n, S 57) L).1 ∧ S2 57 = (wr_l (S 56) (n, S 57) L).2 ∧ ∀ k, k ≠ 55 → k ≠ 57 → S2 k = S k
theorem wQ.nil {n : Nat} {S : Nat → Int32} (h : S 55 = nI n) : wQ n S [] S := ⟨h, rfl, fun _ _ _ => rfl⟩
theorem wQ.at55 {n : Nat} {S S2 : Nat → Int32} {L : List Int32} (h : wQ n S L S2) : S2 55 = nI (n + L.length) := by rw [h.1, wr_l_len]
theorem wQ.tr {n : Nat} {S S1 S2 : Nat → Int32} {L M : List Int32} (h : wQ n S L S1) (h2 : wQ (n + L.length) S1 M S2) : wQ n S (L ++ M) S2 := by
  have e : wr_l (S 56) (n, S 57) L = (n + L.length, S1 57) := by
    have h1 := wr_l_len (wt := S 56) (L := L) (st := (n, S 57))
    rw [h.2.1]
    exact Prod.ext h1 rfl
  refine ⟨?_, ?_, fun k h1 h3 => (h2.2.2 k h1 h3).trans (h.2.2 k h1 h3)⟩
  · rw [h2.1, h.2.2 56 (by decide) (by decide), wr_l_app, e]
  · rw [h2.2.1, h.2.2 56 (by decide) (by decide), wr_l_app, e]
theorem wQ.one {n : Nat} {S : Nat → Int32} {c : Int32} (h : S 55 = nI n) : wQ n S [c] (va_up (va_up S 57 (if S 55 = S 56 then c else S 57)) 55 (S 55 + 1)) := by
  refine ⟨?_, ?_, fun k h1 h2 => by rw [va_up_n h1, va_up_n h2]⟩
  · rw [va_up_s, h, nI_1]; rfl
  · rw [va_up_n (by decide), va_up_s, h]; rfl
theorem wQ.eq {n : Nat} {S S2 : Nat → Int32} {L M : List Int32} (h : wQ n S L S2) (e : L = M) : wQ n S M S2 := by rw [← e]; exact h
theorem c_Mo_wr (l : Launch) (E : gh_E) (sz : Nat) (f : gh_F) (a : Nat) (ad : Nat → Nat) (S : Nat → Int32) (I : Nat → Nat → Int32) (J : Nat → Nat → Int64) (x : Int32) (n : Nat) (hX : mo_R E f a ad S I J) (h55 : S 55 = nI n) : gh_M l y_Mo_write b_Mo_write 2 none E sz [.ref a, .int x] f { frames := 3, cells := 0, slots := 0, locals := 60 } (fun r g => r = none ∧ ∃ S2, mo_X E f g a ad S2 I J ∧ wQ n S [x] S2) :=
  gh_weak (c_Mo_write l E sz f a ad S I J x hX) (fun r g h => ⟨h.1, _, h.2, wQ.one h55⟩)
