/-! What both streams together cost at least. -/
theorem sr_fb_le {e : Nat} {h : vt → vt → Option vt} {G : vt → sr} {T1 : sr} : sr_c (sr_fb 0 (fun _ y => some y) G T1) ≤ sr_c (sr_fb e h G T1) := by
  obtain ⟨L, t⟩ := T1
  induction L with
  | nil => exact Nat.le_refl _
  | cons a L ih =>
    show sr_c (sr_fb 0 (fun _ y => some y) G (sr_cons a.1 a.2 (L, t))) ≤ sr_c (sr_fb e h G (sr_cons a.1 a.2 (L, t)))
    rw [sr_fb_cons, sr_fb_cons, sr_c_add, sr_c_add]
    refine Nat.add_le_add_left ?_ _
    rcases sr_cases (G a.2) with ⟨d, y, R, hG⟩ | ⟨d, hG⟩ | ⟨d, hG⟩
    · rw [hG, sr_fe_cons, sr_fe_cons (e := e), sr_c_add, sr_c_add, sr_fe_cc, sr_fe_cc]; omega
    · rw [hG, sr_fe_end, sr_fe_end, sr_c_add, sr_c_add]; exact Nat.add_le_add_left ih _
    · rw [hG, sr_fe_fail, sr_fe_fail]; exact Nat.le_refl _
theorem sr_fe_le {e : Nat} {h : vt → vt → Option vt} {G : vt → sr} {v : vt} {T2 T1 : sr} : sr_c (sr_fe 0 (fun _ y => some y) G v T2 T1) ≤ sr_c (sr_fe e h G v T2 T1) := by
  rcases sr_cases T2 with ⟨d, y, R, rfl⟩ | ⟨d, rfl⟩ | ⟨d, rfl⟩
  · rw [sr_fe_cons, sr_fe_cons (e := e), sr_c_add, sr_c_add, sr_fe_cc, sr_fe_cc]; omega
  · rw [sr_fe_end, sr_fe_end, sr_c_add, sr_c_add]; exact Nat.add_le_add_left sr_fb_le _
  · exact Nat.le_refl _
