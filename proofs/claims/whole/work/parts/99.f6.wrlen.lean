/-! How long a text may be. -/
theorem wr_s_len {L : List Int32} : ∀ {i : Nat}, (wr_s L i).length ≤ 2 * i := by
  intro i
  induction i with
  | zero => exact Nat.le_refl _
  | succ i ih =>
    show (wr_s L i ++ wr_e (L.getD i 0)).length ≤ _
    rw [List.length_append]
    have : (wr_e (L.getD i 0)).length ≤ 2 := by unfold wr_e; split; exact Nat.le_refl 2; exact Nat.le_succ 1
    omega
theorem wr_t_len {L : List Int32} (h : lt_ok L) : (wr_t L).length ≤ 50 := by
  unfold wr_t
  rw [List.length_append, List.length_append]
  have h1 := wr_s_len (L := L) (i := L.length)
  have h2 := h.1
  show 1 + _ + 1 ≤ 50
  omega
theorem wr_d_len {m : Nat} : ∀ {s : Nat}, (wr_d m s).length = s := by
  intro s
  induction s with
  | zero => rfl
  | succ s ih => show (wr_d m s).length + 1 = s + 1; rw [ih]
theorem wr_n_le {m : Nat} : ∀ {s : Nat}, wr_n m s ≤ s := by
  intro s
  induction s with
  | zero => exact Nat.le_refl _
  | succ s ih => unfold wr_n; split <;> omega
theorem wr_i_len {n : Int64} : (wr_i n).length ≤ 20 := by
  unfold wr_i
  rw [List.length_append, wr_d_len]
  have := wr_n_le (m := n.toInt.natAbs) (s := 19)
  split
  · show 1 + _ ≤ 20; omega
  · show 0 + _ ≤ 20; omega
theorem wr_m_len {g : vt → List Int32} {X : vt} {n : Nat} (hv : vo (n + 1) X) (hg : ∀ j, j < vt_c X → (g (vt_s X j)).length + 58 ≤ 110 * vt_w (vt_s X j)) : ∀ (m i : Nat), i + m = vt_c X → (wr_m g X m i).length + 110 * vt_ws X i ≤ 110 * vt_ws X (vt_c X) := by
  intro m
  induction m with
  | zero => intro i hi; rw [show i = vt_c X by omega]; show 0 + _ ≤ _; omega
  | succ m ih =>
    intro i hi
    have h1 := ih (i + 1) (by omega)
    have h2 := hg i (by omega)
    have e : vt_ws X (i + 1) = vt_ws X i + vt_w (vt_s X i) := rfl
    have hq := (vo_o.mp hv).2.2.2.2.1
    have hk : ((if vt_k X = 6 then wr_t ((vt_q X).getD i []) ++ [58] else []) : List Int32).length ≤ 51 := by
      by_cases h6 : vt_k X = 6
      · rw [if_pos h6, List.length_append]
        rw [if_pos h6] at hq
        have := wr_t_len ((vo_o.mp hv).2.2.2.2.2.2.2.2.2.2.1 i (by omega))
        show _ + 1 ≤ 51
        omega
      · rw [if_neg h6]; exact Nat.zero_le _
    have hs : ((if i = 0 then [] else [44]) : List Int32).length ≤ 1 := by split <;> decide
    show ((if i = 0 then [] else [44]) ++ (if vt_k X = 6 then wr_t ((vt_q X).getD i []) ++ [58] else []) ++ g (vt_s X i) ++ wr_m g X m (i + 1)).length + _ ≤ _
    rw [List.length_append, List.length_append, List.length_append]
    omega
theorem wr_v_len : ∀ {n : Nat} {X : vt}, vo n X → (wr_v n X).length + 58 ≤ 110 * vt_w X := by
  intro n
  induction n with
  | zero => intro X h; exact h.elim
  | succ n ih =>
    intro X h
    have hvo := vo_o.mp h
    have hw : vt_w X = vt_ws X (vt_c X) := hvo.2.2.2.2.2.2.2.2.2.1
    have hw1 : 1 ≤ vt_w X := by rw [hw]; exact vt_ws_pos
    by_cases h5 : 5 ≤ vt_k X
    · rw [wr_v_many h5, List.length_append, List.length_append]
      have hm := wr_m_len (g := wr_v n) h (fun j hj => ih (hvo.2.2.2.2.2.2.2.2.2.2.2 j hj).2) (vt_c X) 0 (by omega)
      have h0 : vt_ws X 0 = 1 := rfl
      show 1 + _ + 1 + 58 ≤ _
      omega
    · have hl : (wr_v (n + 1) X).length ≤ 50 := by
        unfold wr_v
        rcases (show vt_k X = 0 ∨ vt_k X = 1 ∨ vt_k X = 2 ∨ vt_k X = 3 ∨ vt_k X = 4 by omega) with e | e | e | e | e
        · rw [if_pos e]; decide
        · rw [if_neg (by omega), if_pos e]; decide
        · rw [if_neg (by omega), if_neg (by omega), if_pos e]; decide
        · rw [if_neg (by omega), if_neg (by omega), if_neg (by omega), if_pos e]; exact Nat.le_trans wr_i_len (by decide)
        · rw [if_neg (by omega), if_neg (by omega), if_neg (by omega), if_neg (by omega), if_pos e]; exact wr_t_len hvo.2.2.2.1
      omega
theorem wr_v_max {X : vt} (h : vo 8 X) : (wr_v 8 X).length ≤ 11000 := by
  have h1 := wr_v_len h
  have h2 := (vo_o.mp h).2.2.2.2.2.2.2.1
  omega
