/-! Asking any part of the model. -/
theorem mk_all {l : Launch} {E : gh_E} {a : Nat} {ad : Nat → Nat} {RW : (Nat → Int32) → mo_I → mo_J → Prop} (hcl : ms_cl l E a ad RW) {cb bg : Nat → Nat} {N b0 pb : Nat} (hN : N ≤ 60) : ∀ n, mk_A RW cb bg N b0 pb n := by
  intro n
  induction n with
  | zero => intro S I J w q c e T φ nv np B C hq hn7; omega
  | succ n ih =>
    intro S I J w q c e T φ nv np B C hq hn7 hwq hz h45 hpt h46 hH hb hB hC hG
    cases q with
    | zero => exact hq.elim
    | succ q =>
      have hn : mn cb bg b0 pb B C w c S I J φ nv np := ⟨hz, h45, hpt, hb, hB, hC⟩
      have hG : mk_G RW cb bg b0 pb (n + 1) c e T φ w B C nv np S I J := hG
      have h26 := hq.1.2.2.1
      rcases (show cb c = 3 ∨ cb c = 4 ∨ (cb c = 8 ∨ cb c = 11 ∨ 22 ≤ cb c) ∨ cb c = 9 ∨ cb c = 10 ∨ cb c = 12 ∨ cb c = 13 ∨ cb c = 14 ∨ cb c = 16 ∨ cb c = 17 ∨ (cb c = 0 ∨ cb c = 1 ∨ cb c = 2 ∨ cb c = 5 ∨ cb c = 6 ∨ cb c = 7 ∨ cb c = 15 ∨ cb c = 18 ∨ cb c = 19 ∨ cb c = 20 ∨ cb c = 21) by omega) with hk | hk | hk | hk | hk | hk | hk | hk | hk | hk | hk
      · exact s_3 hcl hN hq (by omega) hn hk hH hG
      · exact s_4 hcl hN hq (by omega) (by omega) hn hk hH hG
      · exact s_two hcl hN ih hq (by omega) (by omega) hn h46 hk hH hG
      · exact s_9 hcl hN ih hq (by omega) (by omega) hn h46 hk hH hG
      · exact s_10 hcl hN ih hq (by omega) (by omega) hn h46 hk hH hG
      · exact s_12 hcl hN ih hq (by omega) (by omega) hn h46 hk hH hG
      · exact s_13 hcl hN ih hq (by omega) (by omega) hn h46 hk hH hG
      · exact s_14 hcl hN ih hq (by omega) (by omega) hn h46 hk hH hG
      · exact s_16 hcl hN ih hq (by omega) (by omega) hn h46 hk hH hG
      · rcases hH with ⟨h35, ⟨X, Y, hx, hy, hT⟩, hB⟩ | hS
        · have hT : T = sr_end 0 := by
            rw [hT, sr_B_o]; unfold sr_part
            rw [if_neg (by omega), if_neg (by omega), if_neg (by omega), if_neg (by omega), if_neg (by omega), if_neg (by omega), if_neg (by omega), if_neg (by omega), if_neg (by omega), if_pos hk]
          subst hT
          exact s_17 hcl hN hq (by omega) hn hk h35 hG
        · exact s_again hcl hN hq (by omega) hn (by omega) hS hG
      · rcases hH with ⟨h35, ⟨X, Y, hx, hy, hT⟩, hB⟩ | hS
        · subst hT
          exact s_leaf hcl hN hq (by omega) hn hB hk hx hy h35 hG
        · exact s_again hcl hN hq (by omega) hn (by omega) hS hG
