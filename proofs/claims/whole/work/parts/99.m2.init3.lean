/-! The machine's constructor once more: what was there at which time. Printed by wip/whole/gen_init3.py out of part 33. -/
/-- what isn't in g wasn't in f -/
def dm (f g : gh_F) : Prop := ∀ b, g b = none → f b = none
theorem dm.tr {f g h : gh_F} (h1 : dm f g) (h2 : dm g h) : dm f h := fun b hb => h1 b (h2 b hb)
def qi_P (E : gh_E) (_f g : gh_F) (a : Nat) : Prop := ∃ (fV f1V fR f1R fW f1W fU f1U fD f1P fN f1N : gh_F) (vs nu re wr ru dq nq tx : Nat), g a = some (.inr (0, [.ref tx, .int 0, .ref re, .ref wr, .ref ru, .ref nu, .ref dq, .ref nq])) ∧ g tx = some (.inl (E.2.2.1 2, 120, .inl (fun _ => 0))) ∧ (qm_Vs E fV f1V vs nu ∧ qm_Re E fR f1R re vs ∧ qm_Wr E fW f1W wr ∧ qm_Ru E fU f1U ru vs ∧ qm_Qu E fD f1P dq 1 (va_up (fun _ => 0) 0 0) (fun _ => 0) ∧ qm_Qu E fN f1N nq 0 (fun _ => 0) (fun _ => 0)) ∧ (gh_fr f1V g (fun b => b ∈ ([a] : List Nat)) ∧ gh_fr f1R g (fun b => b ∈ ([a] : List Nat)) ∧ gh_fr f1W g (fun b => b ∈ ([a] : List Nat)) ∧ gh_fr f1U g (fun b => b ∈ ([a] : List Nat)) ∧ gh_fr f1P g (fun b => b ∈ ([a] : List Nat)) ∧ gh_fr f1N g (fun b => b ∈ ([a] : List Nat))) ∧ (dm fV f1V ∧ dm f1V fR ∧ dm fR f1R ∧ dm f1R fW ∧ dm fW f1W ∧ dm f1W fU ∧ dm fU f1U ∧ dm f1U fD ∧ dm fD f1P ∧ dm f1P fN ∧ dm fN f1N ∧ dm f1N g) ∧ fV a ≠ none ∧ fR tx ≠ none ∧ f1V tx = none ∧ f1P nq = none ∧ (a ≠ vs ∧ a ≠ re ∧ a ≠ wr ∧ a ≠ ru ∧ a ≠ dq ∧ a ≠ nq)
set_option maxHeartbeats 4000000 in
set_option maxRecDepth 100000 in
theorem c_QM_init2 (l : Launch) (E : gh_E) (sz : Nat) (f : gh_F) (a : Nat) (ha : f a = some (.inr (0, [.null, .int 0, .null, .null, .null, .null, .null, .null]))) : gh_M l y_QM_init b_QM_init 2 none E sz [.ref a] f { frames := 30, cells := 387, slots := 4201, locals := 700 } (fun r g => r = none ∧ qi_P E f g a ∧ gh_fr f g (fun b => b ∈ ([a] : List Nat))) := by
  refine gh_open (by decide) (Nat.le_of_ble_eq_true rfl) ?_
  intro p e s m args below meth c A ls hAe C V hr hlocks hname hl
  have hx := C.1
  have hb := C.2.1
  have hini : meth.name = "<init>" := hname
  have hl : lv_has ls 2 [(0, .ref a)] := hl
  have hfr : gh_fr f f (fun b => b ∈ ([a] : List Nat)) := gh_fr.rf
  refine lv_aload_n hx hb d_QM_init_0 rfl (lv_at hl 0 rfl) ?_
  refine gh_obj C hl.1 o_QM_1 (by decide) (by decide) d_QM_init_1 ?_
  refine gh_new (fs := [.null, .null, .null, .null, .null, .null]) C V gc_Vs gi_Vs ty_Vs k_QM_7 n_Vs i_Vs (by decide) (by first | decide | omega | (dsimp only; omega)) (by first | decide | omega | (dsimp only; omega)) d_QM_init_4 (fun q1 H hnq1 V => ?_)
  obtain ⟨f2, hff2⟩ : ∃ z9 : gh_F, z9 = gh_u f q1 (.inr (7, [.null, .null, .null, .null, .null, .null])) := ⟨_, rfl⟩
  have V : gh_V E A f2 s H [] := by rw [hff2]; exact V
  have nz_q1 : f q1 = none := hfr.non hnq1
  have hfr : gh_fr f f2 (fun b => b ∈ ([a] : List Nat)) := by rw [hff2]; exact hfr.put (Or.inr nz_q1)
  have ne_a_q1 : a ≠ q1 := gh_ne0 ha hnq1
  have h_a_f2 : f2 a = some (.inr (0, [.null, .int 0, .null, .null, .null, .null, .null, .null])) := by rw [hff2, gh_un ne_a_q1]; exact ha
  have h_q1_f2 : f2 q1 = some (.inr (7, [.null, .null, .null, .null, .null, .null])) := by rw [hff2, gh_us]
  refine lv_dup hx hb d_QM_init_7 rfl ?_
  have hfrAtV := hfr
  refine gh_callI C V hl.1 m_Vs_init l_QM_9 (k_Vs l E _ f2 q1 h_q1_f2) rfl ⟨by first | decide | omega | (dsimp only; omega), by first | decide | omega | (dsimp only; omega)⟩ ⟨by first | decide | omega | (dsimp only; omega), by first | decide | omega | (dsimp only; omega)⟩ (Nat.le_of_ble_eq_true rfl) rfl d_QM_init_8 (fun r f1V H locs hp V => ?_)
  obtain ⟨rfl, ⟨nu, hVs⟩, hfr2⟩ := hp
  have monV := hfr2
  refine W.eq (g2 := F0 m 11 ls [.ref q1]) rfl ?_
  have h_a_f1V : f1V a = some (.inr (0, [.null, .int 0, .null, .null, .null, .null, .null, .null])) := hfr2.at1 h_a_f2 ne_a_q1
  obtain ⟨niV, noV, yeV, alV, gaV, kV, iV, gV, XV, KV, hnV, hkiV, hvs, -⟩ := id hVs
  have hfr : gh_fr f f1V (fun b => b ∈ ([a] : List Nat)) := hfr.tr1 hfr2 (Or.inr nz_q1)
  have hfkV : gh_fr f1V f1V (fun b => b ∈ ([a] : List Nat)) := gh_fr.rf
  refine lv_astore_n hx hb d_QM_init_11 rfl hl (by decide) rfl (fun ls hl => ?_)
  have hl : lv_has ls 2 [(1, .ref q1), (0, .ref a)] := hl
  refine lv_aload_n hx hb d_QM_init_12 rfl (lv_at hl 1 rfl) ?_
  refine lv_bipush (v := 120) hx hb d_QM_init_13 (by decide) ?_
  refine gh_newa (atype := .char) (ty := .char) (t0 := 2) (a0 := (120, .inl (fun _ => 0))) (N := 120) C V rfl ac_char rfl (fun _ h => by cases h) (gh_a0i _ .char rfl) (by decide) (by decide) (by decide +kernel) (by first | decide | omega | (dsimp only; omega)) (by first | decide | omega | (dsimp only; omega)) d_QM_init_15 (fun q3 H hnq3 V => ?_)
  obtain ⟨f4, hff4⟩ : ∃ z9 : gh_F, z9 = gh_u f1V q3 (.inl (E.2.2.1 2, 120, .inl (fun _ => 0))) := ⟨_, rfl⟩
  have V : gh_V E A f4 s H locs := by rw [hff4]; exact V
  have nz_q3 : f q3 = none := hfr.non hnq3
  have hfr : gh_fr f f4 (fun b => b ∈ ([a] : List Nat)) := by rw [hff4]; exact hfr.put (Or.inr nz_q3)
  have ne_a_q3 : a ≠ q3 := gh_ne0 h_a_f1V hnq3
  have h_a_f4 : f4 a = some (.inr (0, [.null, .int 0, .null, .null, .null, .null, .null, .null])) := by rw [hff4, gh_un ne_a_q3]; exact h_a_f1V
  have ne_q1_q3 : q1 ≠ q3 := gh_ne0 hvs hnq3
  have h_q1_f4 : f4 q1 = some (.inr (7, [.ref nu, .ref noV, .ref yeV, .ref niV, .ref alV, .ref gaV])) := by rw [hff4, gh_un ne_q1_q3]; exact hvs
  have h_q3_f4 : f4 q3 = some (.inl (E.2.2.1 2, 120, .inl (fun _ => 0))) := by rw [hff4, gh_us]
  have nkV_q3 : f1V q3 = none := hfkV.non hnq3
  have hfkV : gh_fr f1V f4 (fun b => b ∈ ([a] : List Nat)) := by rw [hff4]; exact hfkV.put (Or.inr nkV_q3)
  refine gh_putF C V hini h_a_f4 gc_QM gi_QM ty_QM nm_QM 0 (by decide) f_QM_12 rfl (by first | rfl | decide) (by first | rfl | decide) (Nat.le_of_ble_eq_true rfl) d_QM_init_17 (fun H locs V => ?_)
  obtain ⟨f5, hff5⟩ : ∃ z9 : gh_F, z9 = gh_u f4 a (.inr (0, [.ref q3, .int 0, .null, .null, .null, .null, .null, .null])) := ⟨_, rfl⟩
  have V : gh_V E A f5 s H locs := by rw [hff5]; exact V
  have hfr : gh_fr f f5 (fun b => b ∈ ([a] : List Nat)) := by rw [hff5]; exact hfr.put (Or.inl (by simp))
  have h_q1_f5 : f5 q1 = some (.inr (7, [.ref nu, .ref noV, .ref yeV, .ref niV, .ref alV, .ref gaV])) := by rw [hff5, gh_un (Ne.symm ne_a_q1)]; exact h_q1_f4
  have h_q3_f5 : f5 q3 = some (.inl (E.2.2.1 2, 120, .inl (fun _ => 0))) := by rw [hff5, gh_un (Ne.symm ne_a_q3)]; exact h_q3_f4
  have h_a_f5 : f5 a = some (.inr (0, [.ref q3, .int 0, .null, .null, .null, .null, .null, .null])) := by rw [hff5, gh_us]
  have hfkV : gh_fr f1V f5 (fun b => b ∈ ([a] : List Nat)) := by rw [hff5]; exact hfkV.put (Or.inl (by simp))
  refine lv_aload_n hx hb d_QM_init_20 rfl (lv_at hl 1 rfl) ?_
  refine gh_new (fs := [.null, .null, .null, .null, .int 0, .int 0, .int 0]) C V gc_Re gi_Re ty_Re k_QM_16 n_Re i_Re (by decide) (by first | decide | omega | (dsimp only; omega)) (by first | decide | omega | (dsimp only; omega)) d_QM_init_21 (fun q6 H hnq6 V => ?_)
  obtain ⟨f7, hff7⟩ : ∃ z9 : gh_F, z9 = gh_u f5 q6 (.inr (3, [.null, .null, .null, .null, .int 0, .int 0, .int 0])) := ⟨_, rfl⟩
  have V : gh_V E A f7 s H locs := by rw [hff7]; exact V
  have nz_q6 : f q6 = none := hfr.non hnq6
  have hfr : gh_fr f f7 (fun b => b ∈ ([a] : List Nat)) := by rw [hff7]; exact hfr.put (Or.inr nz_q6)
  have ne_q1_q6 : q1 ≠ q6 := gh_ne0 h_q1_f5 hnq6
  have h_q1_f7 : f7 q1 = some (.inr (7, [.ref nu, .ref noV, .ref yeV, .ref niV, .ref alV, .ref gaV])) := by rw [hff7, gh_un ne_q1_q6]; exact h_q1_f5
  have ne_q3_q6 : q3 ≠ q6 := gh_ne0 h_q3_f5 hnq6
  have h_q3_f7 : f7 q3 = some (.inl (E.2.2.1 2, 120, .inl (fun _ => 0))) := by rw [hff7, gh_un ne_q3_q6]; exact h_q3_f5
  have ne_a_q6 : a ≠ q6 := gh_ne0 h_a_f5 hnq6
  have h_a_f7 : f7 a = some (.inr (0, [.ref q3, .int 0, .null, .null, .null, .null, .null, .null])) := by rw [hff7, gh_un ne_a_q6]; exact h_a_f5
  have h_q6_f7 : f7 q6 = some (.inr (3, [.null, .null, .null, .null, .int 0, .int 0, .int 0])) := by rw [hff7, gh_us]
  have nkV_q6 : f1V q6 = none := hfkV.non hnq6
  have hfkV : gh_fr f1V f7 (fun b => b ∈ ([a] : List Nat)) := by rw [hff7]; exact hfkV.put (Or.inr nkV_q6)
  refine lv_dup hx hb d_QM_init_24 rfl ?_
  refine lv_aload_n hx hb d_QM_init_25 rfl (lv_at hl 0 rfl) ?_
  have hfrAtR := hfr
  have hfkAtVR := hfkV
  refine gh_callI C V hl.1 m_Re_init l_QM_18 (k_Re l E _ f7 q6 q1 h_q6_f7) rfl ⟨by first | decide | omega | (dsimp only; omega), by first | decide | omega | (dsimp only; omega)⟩ ⟨by first | decide | omega | (dsimp only; omega), by first | decide | omega | (dsimp only; omega)⟩ (Nat.le_of_ble_eq_true rfl) rfl d_QM_init_26 (fun r f1R H locs hp V => ?_)
  obtain ⟨rfl, hRe, hfr2⟩ := hp
  have monR := hfr2
  refine W.eq (g2 := F0 m 29 ls [.ref q6, .ref a]) rfl ?_
  have h_q1_f1R : f1R q1 = some (.inr (7, [.ref nu, .ref noV, .ref yeV, .ref niV, .ref alV, .ref gaV])) := hfr2.at1 h_q1_f7 ne_q1_q6
  have h_q3_f1R : f1R q3 = some (.inl (E.2.2.1 2, 120, .inl (fun _ => 0))) := hfr2.at1 h_q3_f7 ne_q3_q6
  have h_a_f1R : f1R a = some (.inr (0, [.ref q3, .int 0, .null, .null, .null, .null, .null, .null])) := hfr2.at1 h_a_f7 ne_a_q6
  have hfr : gh_fr f f1R (fun b => b ∈ ([a] : List Nat)) := hfr.tr1 hfr2 (Or.inr nz_q6)
  have hfkV : gh_fr f1V f1R (fun b => b ∈ ([a] : List Nat)) := hfkV.tr1 hfr2 (Or.inr nkV_q6)
  have hfkR : gh_fr f1R f1R (fun b => b ∈ ([a] : List Nat)) := gh_fr.rf
  refine gh_putF C V hini h_a_f1R gc_QM gi_QM ty_QM nm_QM 2 (by decide) f_QM_21 rfl (by first | rfl | decide) (by first | rfl | decide) (Nat.le_of_ble_eq_true rfl) d_QM_init_29 (fun H locs V => ?_)
  obtain ⟨f8, hff8⟩ : ∃ z9 : gh_F, z9 = gh_u f1R a (.inr (0, [.ref q3, .int 0, .ref q6, .null, .null, .null, .null, .null])) := ⟨_, rfl⟩
  have V : gh_V E A f8 s H locs := by rw [hff8]; exact V
  have hfr : gh_fr f f8 (fun b => b ∈ ([a] : List Nat)) := by rw [hff8]; exact hfr.put (Or.inl (by simp))
  have h_q1_f8 : f8 q1 = some (.inr (7, [.ref nu, .ref noV, .ref yeV, .ref niV, .ref alV, .ref gaV])) := by rw [hff8, gh_un (Ne.symm ne_a_q1)]; exact h_q1_f1R
  have h_q3_f8 : f8 q3 = some (.inl (E.2.2.1 2, 120, .inl (fun _ => 0))) := by rw [hff8, gh_un (Ne.symm ne_a_q3)]; exact h_q3_f1R
  have h_a_f8 : f8 a = some (.inr (0, [.ref q3, .int 0, .ref q6, .null, .null, .null, .null, .null])) := by rw [hff8, gh_us]
  have hfkV : gh_fr f1V f8 (fun b => b ∈ ([a] : List Nat)) := by rw [hff8]; exact hfkV.put (Or.inl (by simp))
  have hfkR : gh_fr f1R f8 (fun b => b ∈ ([a] : List Nat)) := by rw [hff8]; exact hfkR.put (Or.inl (by simp))
  refine lv_aload_n hx hb d_QM_init_32 rfl (lv_at hl 1 rfl) ?_
  refine gh_new (fs := [.null, .int 0, .int 0, .int 0]) C V gc_Wr gi_Wr ty_Wr k_QM_25 n_Wr i_Wr (by decide) (by first | decide | omega | (dsimp only; omega)) (by first | decide | omega | (dsimp only; omega)) d_QM_init_33 (fun q9 H hnq9 V => ?_)
  obtain ⟨f10, hff10⟩ : ∃ z9 : gh_F, z9 = gh_u f8 q9 (.inr (8, [.null, .int 0, .int 0, .int 0])) := ⟨_, rfl⟩
  have V : gh_V E A f10 s H locs := by rw [hff10]; exact V
  have nz_q9 : f q9 = none := hfr.non hnq9
  have hfr : gh_fr f f10 (fun b => b ∈ ([a] : List Nat)) := by rw [hff10]; exact hfr.put (Or.inr nz_q9)
  have ne_q1_q9 : q1 ≠ q9 := gh_ne0 h_q1_f8 hnq9
  have h_q1_f10 : f10 q1 = some (.inr (7, [.ref nu, .ref noV, .ref yeV, .ref niV, .ref alV, .ref gaV])) := by rw [hff10, gh_un ne_q1_q9]; exact h_q1_f8
  have ne_q3_q9 : q3 ≠ q9 := gh_ne0 h_q3_f8 hnq9
  have h_q3_f10 : f10 q3 = some (.inl (E.2.2.1 2, 120, .inl (fun _ => 0))) := by rw [hff10, gh_un ne_q3_q9]; exact h_q3_f8
  have ne_a_q9 : a ≠ q9 := gh_ne0 h_a_f8 hnq9
  have h_a_f10 : f10 a = some (.inr (0, [.ref q3, .int 0, .ref q6, .null, .null, .null, .null, .null])) := by rw [hff10, gh_un ne_a_q9]; exact h_a_f8
  have h_q9_f10 : f10 q9 = some (.inr (8, [.null, .int 0, .int 0, .int 0])) := by rw [hff10, gh_us]
  have nkV_q9 : f1V q9 = none := hfkV.non hnq9
  have hfkV : gh_fr f1V f10 (fun b => b ∈ ([a] : List Nat)) := by rw [hff10]; exact hfkV.put (Or.inr nkV_q9)
  have nkR_q9 : f1R q9 = none := hfkR.non hnq9
  have hfkR : gh_fr f1R f10 (fun b => b ∈ ([a] : List Nat)) := by rw [hff10]; exact hfkR.put (Or.inr nkR_q9)
  refine lv_dup hx hb d_QM_init_36 rfl ?_
  have hfrAtW := hfr
  have hfkAtVW := hfkV
  have hfkAtRW := hfkR
  refine gh_callI C V hl.1 m_Wr_init l_QM_27 (k_Wr l E _ f10 q9 h_q9_f10) rfl ⟨by first | decide | omega | (dsimp only; omega), by first | decide | omega | (dsimp only; omega)⟩ ⟨by first | decide | omega | (dsimp only; omega), by first | decide | omega | (dsimp only; omega)⟩ (Nat.le_of_ble_eq_true rfl) rfl d_QM_init_37 (fun r f1W H locs hp V => ?_)
  obtain ⟨rfl, hWr, hfr2⟩ := hp
  have monW := hfr2
  refine W.eq (g2 := F0 m 40 ls [.ref q9, .ref a]) rfl ?_
  have h_q1_f1W : f1W q1 = some (.inr (7, [.ref nu, .ref noV, .ref yeV, .ref niV, .ref alV, .ref gaV])) := hfr2.at1 h_q1_f10 ne_q1_q9
  have h_q3_f1W : f1W q3 = some (.inl (E.2.2.1 2, 120, .inl (fun _ => 0))) := hfr2.at1 h_q3_f10 ne_q3_q9
  have h_a_f1W : f1W a = some (.inr (0, [.ref q3, .int 0, .ref q6, .null, .null, .null, .null, .null])) := hfr2.at1 h_a_f10 ne_a_q9
  have hfr : gh_fr f f1W (fun b => b ∈ ([a] : List Nat)) := hfr.tr1 hfr2 (Or.inr nz_q9)
  have hfkV : gh_fr f1V f1W (fun b => b ∈ ([a] : List Nat)) := hfkV.tr1 hfr2 (Or.inr nkV_q9)
  have hfkR : gh_fr f1R f1W (fun b => b ∈ ([a] : List Nat)) := hfkR.tr1 hfr2 (Or.inr nkR_q9)
  have hfkW : gh_fr f1W f1W (fun b => b ∈ ([a] : List Nat)) := gh_fr.rf
  refine gh_putF C V hini h_a_f1W gc_QM gi_QM ty_QM nm_QM 3 (by decide) f_QM_28 rfl (by first | rfl | decide) (by first | rfl | decide) (Nat.le_of_ble_eq_true rfl) d_QM_init_40 (fun H locs V => ?_)
  obtain ⟨f11, hff11⟩ : ∃ z9 : gh_F, z9 = gh_u f1W a (.inr (0, [.ref q3, .int 0, .ref q6, .ref q9, .null, .null, .null, .null])) := ⟨_, rfl⟩
  have V : gh_V E A f11 s H locs := by rw [hff11]; exact V
  have hfr : gh_fr f f11 (fun b => b ∈ ([a] : List Nat)) := by rw [hff11]; exact hfr.put (Or.inl (by simp))
  have h_q1_f11 : f11 q1 = some (.inr (7, [.ref nu, .ref noV, .ref yeV, .ref niV, .ref alV, .ref gaV])) := by rw [hff11, gh_un (Ne.symm ne_a_q1)]; exact h_q1_f1W
  have h_q3_f11 : f11 q3 = some (.inl (E.2.2.1 2, 120, .inl (fun _ => 0))) := by rw [hff11, gh_un (Ne.symm ne_a_q3)]; exact h_q3_f1W
  have h_a_f11 : f11 a = some (.inr (0, [.ref q3, .int 0, .ref q6, .ref q9, .null, .null, .null, .null])) := by rw [hff11, gh_us]
  have hfkV : gh_fr f1V f11 (fun b => b ∈ ([a] : List Nat)) := by rw [hff11]; exact hfkV.put (Or.inl (by simp))
  have hfkR : gh_fr f1R f11 (fun b => b ∈ ([a] : List Nat)) := by rw [hff11]; exact hfkR.put (Or.inl (by simp))
  have hfkW : gh_fr f1W f11 (fun b => b ∈ ([a] : List Nat)) := by rw [hff11]; exact hfkW.put (Or.inl (by simp))
  refine lv_aload_n hx hb d_QM_init_43 rfl (lv_at hl 1 rfl) ?_
  refine gh_new (fs := [.null, .null, .null, .null, .null, .int 0, .int 0, .int 0, .int 0]) C V gc_Ru gi_Ru ty_Ru k_QM_32 n_Ru i_Ru (by decide) (by first | decide | omega | (dsimp only; omega)) (by first | decide | omega | (dsimp only; omega)) d_QM_init_44 (fun q12 H hnq12 V => ?_)
  obtain ⟨f13, hff13⟩ : ∃ z9 : gh_F, z9 = gh_u f11 q12 (.inr (4, [.null, .null, .null, .null, .null, .int 0, .int 0, .int 0, .int 0])) := ⟨_, rfl⟩
  have V : gh_V E A f13 s H locs := by rw [hff13]; exact V
  have nz_q12 : f q12 = none := hfr.non hnq12
  have hfr : gh_fr f f13 (fun b => b ∈ ([a] : List Nat)) := by rw [hff13]; exact hfr.put (Or.inr nz_q12)
  have ne_q1_q12 : q1 ≠ q12 := gh_ne0 h_q1_f11 hnq12
  have h_q1_f13 : f13 q1 = some (.inr (7, [.ref nu, .ref noV, .ref yeV, .ref niV, .ref alV, .ref gaV])) := by rw [hff13, gh_un ne_q1_q12]; exact h_q1_f11
  have ne_q3_q12 : q3 ≠ q12 := gh_ne0 h_q3_f11 hnq12
  have h_q3_f13 : f13 q3 = some (.inl (E.2.2.1 2, 120, .inl (fun _ => 0))) := by rw [hff13, gh_un ne_q3_q12]; exact h_q3_f11
  have ne_a_q12 : a ≠ q12 := gh_ne0 h_a_f11 hnq12
  have h_a_f13 : f13 a = some (.inr (0, [.ref q3, .int 0, .ref q6, .ref q9, .null, .null, .null, .null])) := by rw [hff13, gh_un ne_a_q12]; exact h_a_f11
  have h_q12_f13 : f13 q12 = some (.inr (4, [.null, .null, .null, .null, .null, .int 0, .int 0, .int 0, .int 0])) := by rw [hff13, gh_us]
  have nkV_q12 : f1V q12 = none := hfkV.non hnq12
  have hfkV : gh_fr f1V f13 (fun b => b ∈ ([a] : List Nat)) := by rw [hff13]; exact hfkV.put (Or.inr nkV_q12)
  have nkR_q12 : f1R q12 = none := hfkR.non hnq12
  have hfkR : gh_fr f1R f13 (fun b => b ∈ ([a] : List Nat)) := by rw [hff13]; exact hfkR.put (Or.inr nkR_q12)
  have nkW_q12 : f1W q12 = none := hfkW.non hnq12
  have hfkW : gh_fr f1W f13 (fun b => b ∈ ([a] : List Nat)) := by rw [hff13]; exact hfkW.put (Or.inr nkW_q12)
  refine lv_dup hx hb d_QM_init_47 rfl ?_
  refine lv_aload_n hx hb d_QM_init_48 rfl (lv_at hl 0 rfl) ?_
  have hfrAtU := hfr
  have hfkAtVU := hfkV
  have hfkAtRU := hfkR
  have hfkAtWU := hfkW
  refine gh_callI C V hl.1 m_Ru_init l_QM_34 (k_Ru l E _ f13 q12 q1 h_q12_f13) rfl ⟨by first | decide | omega | (dsimp only; omega), by first | decide | omega | (dsimp only; omega)⟩ ⟨by first | decide | omega | (dsimp only; omega), by first | decide | omega | (dsimp only; omega)⟩ (Nat.le_of_ble_eq_true rfl) rfl d_QM_init_49 (fun r f1U H locs hp V => ?_)
  obtain ⟨rfl, hRu, hfr2⟩ := hp
  have monU := hfr2
  refine W.eq (g2 := F0 m 52 ls [.ref q12, .ref a]) rfl ?_
  have h_q1_f1U : f1U q1 = some (.inr (7, [.ref nu, .ref noV, .ref yeV, .ref niV, .ref alV, .ref gaV])) := hfr2.at1 h_q1_f13 ne_q1_q12
  have h_q3_f1U : f1U q3 = some (.inl (E.2.2.1 2, 120, .inl (fun _ => 0))) := hfr2.at1 h_q3_f13 ne_q3_q12
  have h_a_f1U : f1U a = some (.inr (0, [.ref q3, .int 0, .ref q6, .ref q9, .null, .null, .null, .null])) := hfr2.at1 h_a_f13 ne_a_q12
  have hfr : gh_fr f f1U (fun b => b ∈ ([a] : List Nat)) := hfr.tr1 hfr2 (Or.inr nz_q12)
  have hfkV : gh_fr f1V f1U (fun b => b ∈ ([a] : List Nat)) := hfkV.tr1 hfr2 (Or.inr nkV_q12)
  have hfkR : gh_fr f1R f1U (fun b => b ∈ ([a] : List Nat)) := hfkR.tr1 hfr2 (Or.inr nkR_q12)
  have hfkW : gh_fr f1W f1U (fun b => b ∈ ([a] : List Nat)) := hfkW.tr1 hfr2 (Or.inr nkW_q12)
  have hfkU : gh_fr f1U f1U (fun b => b ∈ ([a] : List Nat)) := gh_fr.rf
  refine gh_putF C V hini h_a_f1U gc_QM gi_QM ty_QM nm_QM 4 (by decide) f_QM_35 rfl (by first | rfl | decide) (by first | rfl | decide) (Nat.le_of_ble_eq_true rfl) d_QM_init_52 (fun H locs V => ?_)
  obtain ⟨f14, hff14⟩ : ∃ z9 : gh_F, z9 = gh_u f1U a (.inr (0, [.ref q3, .int 0, .ref q6, .ref q9, .ref q12, .null, .null, .null])) := ⟨_, rfl⟩
  have V : gh_V E A f14 s H locs := by rw [hff14]; exact V
  have hfr : gh_fr f f14 (fun b => b ∈ ([a] : List Nat)) := by rw [hff14]; exact hfr.put (Or.inl (by simp))
  have h_q1_f14 : f14 q1 = some (.inr (7, [.ref nu, .ref noV, .ref yeV, .ref niV, .ref alV, .ref gaV])) := by rw [hff14, gh_un (Ne.symm ne_a_q1)]; exact h_q1_f1U
  have h_q3_f14 : f14 q3 = some (.inl (E.2.2.1 2, 120, .inl (fun _ => 0))) := by rw [hff14, gh_un (Ne.symm ne_a_q3)]; exact h_q3_f1U
  have h_a_f14 : f14 a = some (.inr (0, [.ref q3, .int 0, .ref q6, .ref q9, .ref q12, .null, .null, .null])) := by rw [hff14, gh_us]
  have hfkV : gh_fr f1V f14 (fun b => b ∈ ([a] : List Nat)) := by rw [hff14]; exact hfkV.put (Or.inl (by simp))
  have hfkR : gh_fr f1R f14 (fun b => b ∈ ([a] : List Nat)) := by rw [hff14]; exact hfkR.put (Or.inl (by simp))
  have hfkW : gh_fr f1W f14 (fun b => b ∈ ([a] : List Nat)) := by rw [hff14]; exact hfkW.put (Or.inl (by simp))
  have hfkU : gh_fr f1U f14 (fun b => b ∈ ([a] : List Nat)) := by rw [hff14]; exact hfkU.put (Or.inl (by simp))
  refine lv_aload_n hx hb d_QM_init_55 rfl (lv_at hl 1 rfl) ?_
  refine lv_aload_n hx hb d_QM_init_56 rfl (lv_at hl 0 rfl) ?_
  refine gh_get C V h_q1_f14 gc_Vs gi_Vs 0 (by decide) f_QM_39 rfl rfl d_QM_init_57 ?_
  refine gh_put C V h_a_f14 gc_QM gi_QM ty_QM nm_QM 5 (by decide) f_QM_43 rfl (by first | rfl | decide) (by first | rfl | decide) (Nat.le_of_ble_eq_true rfl) d_QM_init_60 (fun H locs V => ?_)
  obtain ⟨f15, hff15⟩ : ∃ z9 : gh_F, z9 = gh_u f14 a (.inr (0, [.ref q3, .int 0, .ref q6, .ref q9, .ref q12, .ref nu, .null, .null])) := ⟨_, rfl⟩
  have V : gh_V E A f15 s H locs := by rw [hff15]; exact V
  have hfr : gh_fr f f15 (fun b => b ∈ ([a] : List Nat)) := by rw [hff15]; exact hfr.put (Or.inl (by simp))
  have h_q1_f15 : f15 q1 = some (.inr (7, [.ref nu, .ref noV, .ref yeV, .ref niV, .ref alV, .ref gaV])) := by rw [hff15, gh_un (Ne.symm ne_a_q1)]; exact h_q1_f14
  have h_q3_f15 : f15 q3 = some (.inl (E.2.2.1 2, 120, .inl (fun _ => 0))) := by rw [hff15, gh_un (Ne.symm ne_a_q3)]; exact h_q3_f14
  have h_a_f15 : f15 a = some (.inr (0, [.ref q3, .int 0, .ref q6, .ref q9, .ref q12, .ref nu, .null, .null])) := by rw [hff15, gh_us]
  have hfkV : gh_fr f1V f15 (fun b => b ∈ ([a] : List Nat)) := by rw [hff15]; exact hfkV.put (Or.inl (by simp))
  have hfkR : gh_fr f1R f15 (fun b => b ∈ ([a] : List Nat)) := by rw [hff15]; exact hfkR.put (Or.inl (by simp))
  have hfkW : gh_fr f1W f15 (fun b => b ∈ ([a] : List Nat)) := by rw [hff15]; exact hfkW.put (Or.inl (by simp))
  have hfkU : gh_fr f1U f15 (fun b => b ∈ ([a] : List Nat)) := by rw [hff15]; exact hfkU.put (Or.inl (by simp))
  refine lv_aload_n hx hb d_QM_init_63 rfl (lv_at hl 1 rfl) ?_
  refine gh_new (fs := [.null, .null, .int 0]) C V gc_Qu gi_Qu ty_Qu k_QM_46 n_Qu i_Qu (by decide) (by first | decide | omega | (dsimp only; omega)) (by first | decide | omega | (dsimp only; omega)) d_QM_init_64 (fun q16 H hnq16 V => ?_)
  obtain ⟨f17, hff17⟩ : ∃ z9 : gh_F, z9 = gh_u f15 q16 (.inr (2, [.null, .null, .int 0])) := ⟨_, rfl⟩
  have V : gh_V E A f17 s H locs := by rw [hff17]; exact V
  have nz_q16 : f q16 = none := hfr.non hnq16
  have hfr : gh_fr f f17 (fun b => b ∈ ([a] : List Nat)) := by rw [hff17]; exact hfr.put (Or.inr nz_q16)
  have ne_q1_q16 : q1 ≠ q16 := gh_ne0 h_q1_f15 hnq16
  have h_q1_f17 : f17 q1 = some (.inr (7, [.ref nu, .ref noV, .ref yeV, .ref niV, .ref alV, .ref gaV])) := by rw [hff17, gh_un ne_q1_q16]; exact h_q1_f15
  have ne_q3_q16 : q3 ≠ q16 := gh_ne0 h_q3_f15 hnq16
  have h_q3_f17 : f17 q3 = some (.inl (E.2.2.1 2, 120, .inl (fun _ => 0))) := by rw [hff17, gh_un ne_q3_q16]; exact h_q3_f15
  have ne_a_q16 : a ≠ q16 := gh_ne0 h_a_f15 hnq16
  have h_a_f17 : f17 a = some (.inr (0, [.ref q3, .int 0, .ref q6, .ref q9, .ref q12, .ref nu, .null, .null])) := by rw [hff17, gh_un ne_a_q16]; exact h_a_f15
  have h_q16_f17 : f17 q16 = some (.inr (2, [.null, .null, .int 0])) := by rw [hff17, gh_us]
  have nkV_q16 : f1V q16 = none := hfkV.non hnq16
  have hfkV : gh_fr f1V f17 (fun b => b ∈ ([a] : List Nat)) := by rw [hff17]; exact hfkV.put (Or.inr nkV_q16)
  have nkR_q16 : f1R q16 = none := hfkR.non hnq16
  have hfkR : gh_fr f1R f17 (fun b => b ∈ ([a] : List Nat)) := by rw [hff17]; exact hfkR.put (Or.inr nkR_q16)
  have nkW_q16 : f1W q16 = none := hfkW.non hnq16
  have hfkW : gh_fr f1W f17 (fun b => b ∈ ([a] : List Nat)) := by rw [hff17]; exact hfkW.put (Or.inr nkW_q16)
  have nkU_q16 : f1U q16 = none := hfkU.non hnq16
  have hfkU : gh_fr f1U f17 (fun b => b ∈ ([a] : List Nat)) := by rw [hff17]; exact hfkU.put (Or.inr nkU_q16)
  refine lv_dup hx hb d_QM_init_67 rfl ?_
  have hfrAtD := hfr
  have hfkAtVD := hfkV
  have hfkAtRD := hfkR
  have hfkAtWD := hfkW
  have hfkAtUD := hfkU
  refine gh_callI C V hl.1 m_Qu_init l_QM_48 (k_Qu l E _ f17 q16 h_q16_f17) rfl ⟨by first | decide | omega | (dsimp only; omega), by first | decide | omega | (dsimp only; omega)⟩ ⟨by first | decide | omega | (dsimp only; omega), by first | decide | omega | (dsimp only; omega)⟩ (Nat.le_of_ble_eq_true rfl) rfl d_QM_init_68 (fun r f1D H locs hp V => ?_)
  obtain ⟨rfl, hQd, hfr2⟩ := hp
  have monD := hfr2
  refine W.eq (g2 := F0 m 71 ls [.ref q16, .ref a]) rfl ?_
  have h_q1_f1D : f1D q1 = some (.inr (7, [.ref nu, .ref noV, .ref yeV, .ref niV, .ref alV, .ref gaV])) := hfr2.at1 h_q1_f17 ne_q1_q16
  have h_q3_f1D : f1D q3 = some (.inl (E.2.2.1 2, 120, .inl (fun _ => 0))) := hfr2.at1 h_q3_f17 ne_q3_q16
  have h_a_f1D : f1D a = some (.inr (0, [.ref q3, .int 0, .ref q6, .ref q9, .ref q12, .ref nu, .null, .null])) := hfr2.at1 h_a_f17 ne_a_q16
  have hfr : gh_fr f f1D (fun b => b ∈ ([a] : List Nat)) := hfr.tr1 hfr2 (Or.inr nz_q16)
  have hfkV : gh_fr f1V f1D (fun b => b ∈ ([a] : List Nat)) := hfkV.tr1 hfr2 (Or.inr nkV_q16)
  have hfkR : gh_fr f1R f1D (fun b => b ∈ ([a] : List Nat)) := hfkR.tr1 hfr2 (Or.inr nkR_q16)
  have hfkW : gh_fr f1W f1D (fun b => b ∈ ([a] : List Nat)) := hfkW.tr1 hfr2 (Or.inr nkW_q16)
  have hfkU : gh_fr f1U f1D (fun b => b ∈ ([a] : List Nat)) := hfkU.tr1 hfr2 (Or.inr nkU_q16)
  have hfkD : gh_fr f1D f1D (fun b => b ∈ ([a] : List Nat)) := gh_fr.rf
  refine gh_put C V h_a_f1D gc_QM gi_QM ty_QM nm_QM 6 (by decide) f_QM_49 rfl (by first | rfl | decide) (by first | rfl | decide) (Nat.le_of_ble_eq_true rfl) d_QM_init_71 (fun H locs V => ?_)
  obtain ⟨f18, hff18⟩ : ∃ z9 : gh_F, z9 = gh_u f1D a (.inr (0, [.ref q3, .int 0, .ref q6, .ref q9, .ref q12, .ref nu, .ref q16, .null])) := ⟨_, rfl⟩
  have V : gh_V E A f18 s H locs := by rw [hff18]; exact V
  have hfr : gh_fr f f18 (fun b => b ∈ ([a] : List Nat)) := by rw [hff18]; exact hfr.put (Or.inl (by simp))
  have h_q1_f18 : f18 q1 = some (.inr (7, [.ref nu, .ref noV, .ref yeV, .ref niV, .ref alV, .ref gaV])) := by rw [hff18, gh_un (Ne.symm ne_a_q1)]; exact h_q1_f1D
  have h_q3_f18 : f18 q3 = some (.inl (E.2.2.1 2, 120, .inl (fun _ => 0))) := by rw [hff18, gh_un (Ne.symm ne_a_q3)]; exact h_q3_f1D
  have h_a_f18 : f18 a = some (.inr (0, [.ref q3, .int 0, .ref q6, .ref q9, .ref q12, .ref nu, .ref q16, .null])) := by rw [hff18, gh_us]
  have hfkV : gh_fr f1V f18 (fun b => b ∈ ([a] : List Nat)) := by rw [hff18]; exact hfkV.put (Or.inl (by simp))
  have hfkR : gh_fr f1R f18 (fun b => b ∈ ([a] : List Nat)) := by rw [hff18]; exact hfkR.put (Or.inl (by simp))
  have hfkW : gh_fr f1W f18 (fun b => b ∈ ([a] : List Nat)) := by rw [hff18]; exact hfkW.put (Or.inl (by simp))
  have hfkU : gh_fr f1U f18 (fun b => b ∈ ([a] : List Nat)) := by rw [hff18]; exact hfkU.put (Or.inl (by simp))
  have hfkD : gh_fr f1D f18 (fun b => b ∈ ([a] : List Nat)) := by rw [hff18]; exact hfkD.put (Or.inl (by simp))
  refine lv_aload_n hx hb d_QM_init_74 rfl (lv_at hl 1 rfl) ?_
  refine gh_get C V h_a_f18 gc_QM gi_QM 6 (by decide) f_QM_49 rfl rfl d_QM_init_75 ?_
  refine lv_iconst (v := 0) hx hb d_QM_init_78 (by decide) ?_
  have hQc := hQd.keep hfkD (fun b hb => by rw [List.mem_singleton.mp hb, h_a_f17]; exact fun z => by cases z) (fun z => ne_a_q16 (List.mem_singleton.mp z).symm)
  obtain ⟨kE, iE, -, -, -, hqE, -⟩ := id hQc
  refine gh_callV (As := [.int (nI 0)]) C V hl.1 m_Qu_append l_QM_53 (k_append l E _ f18 f17 q16 0 0 (fun _ => 0) (fun _ => 0) (by decide) hQc) rfl hqE gc_Qu ⟨by first | decide | omega | (dsimp only; omega), by first | decide | omega | (dsimp only; omega)⟩ ⟨by first | decide | omega | (dsimp only; omega), by first | decide | omega | (dsimp only; omega)⟩ (Nat.le_of_ble_eq_true rfl) rfl d_QM_init_79 (fun r f1E H locs hp V => ?_)
  obtain ⟨rfl, hQe, hfr2⟩ := hp
  have monDE := hfkD
  have monE := hfr2
  refine W.eq (g2 := F0 m 82 ls []) rfl ?_
  have h_q1_f1E : f1E q1 = some (.inr (7, [.ref nu, .ref noV, .ref yeV, .ref niV, .ref alV, .ref gaV])) := hfr2.at h_q1_f18 (fun z => z.elim (fun z => absurd z (ne_q1_q16)) (fun z => (by rw [h_q1_f17] at z; cases z)))
  have h_q3_f1E : f1E q3 = some (.inl (E.2.2.1 2, 120, .inl (fun _ => 0))) := hfr2.at h_q3_f18 (fun z => z.elim (fun z => absurd z (ne_q3_q16)) (fun z => (by rw [h_q3_f17] at z; cases z)))
  have h_a_f1E : f1E a = some (.inr (0, [.ref q3, .int 0, .ref q6, .ref q9, .ref q12, .ref nu, .ref q16, .null])) := hfr2.at h_a_f18 (fun z => z.elim (fun z => absurd z (ne_a_q16)) (fun z => (by rw [h_a_f17] at z; cases z)))
  have hfr : gh_fr f f1E (fun b => b ∈ ([a] : List Nat)) := hfr.tr hfr2 (fun b e hb z => z.elim (fun z => by rw [z, nz_q16] at hb; cases hb) (fun z => absurd z (hfrAtD b e hb).2))
  have hfkV : gh_fr f1V f1E (fun b => b ∈ ([a] : List Nat)) := hfkV.tr hfr2 (fun b e hb z => z.elim (fun z => by rw [z, nkV_q16] at hb; cases hb) (fun z => absurd z (hfkAtVD b e hb).2))
  have hfkR : gh_fr f1R f1E (fun b => b ∈ ([a] : List Nat)) := hfkR.tr hfr2 (fun b e hb z => z.elim (fun z => by rw [z, nkR_q16] at hb; cases hb) (fun z => absurd z (hfkAtRD b e hb).2))
  have hfkW : gh_fr f1W f1E (fun b => b ∈ ([a] : List Nat)) := hfkW.tr hfr2 (fun b e hb z => z.elim (fun z => by rw [z, nkW_q16] at hb; cases hb) (fun z => absurd z (hfkAtWD b e hb).2))
  have hfkU : gh_fr f1U f1E (fun b => b ∈ ([a] : List Nat)) := hfkU.tr hfr2 (fun b e hb z => z.elim (fun z => by rw [z, nkU_q16] at hb; cases hb) (fun z => absurd z (hfkAtUD b e hb).2))
  have hfkE : gh_fr f1E f1E (fun b => b ∈ ([a] : List Nat)) := gh_fr.rf
  refine lv_aload_n hx hb d_QM_init_82 rfl (lv_at hl 1 rfl) ?_
  refine gh_get C V h_a_f1E gc_QM gi_QM 6 (by decide) f_QM_49 rfl rfl d_QM_init_83 ?_
  have hQc := hQe
  obtain ⟨kP, iP, -, -, -, hqP, -⟩ := id hQc
  refine gh_callV C V hl.1 m_Qu_findsParts l_QM_57 (k_finds l E _ f1E f17 q16 1 (va_up (fun _ => 0) 0 0) (fun _ => 0) (by decide) (fun j => by simp [va_up]) hQc) rfl hqP gc_Qu ⟨by first | decide | omega | (dsimp only; omega), by first | decide | omega | (dsimp only; omega)⟩ ⟨by first | decide | omega | (dsimp only; omega), by first | decide | omega | (dsimp only; omega)⟩ (Nat.le_of_ble_eq_true rfl) rfl d_QM_init_86 (fun r f1P H locs hp V => ?_)
  obtain ⟨rfl, hQp, hfr2⟩ := hp
  have monP := hfr2
  refine W.eq (g2 := F0 m 89 ls [.int (gh_bi (decide ((qy_run (va_up (fun _ => 0) 0 0) 1 13 0 (fun _ => 0)).1 = some 1)))]) rfl ?_
  have h_q1_f1P : f1P q1 = some (.inr (7, [.ref nu, .ref noV, .ref yeV, .ref niV, .ref alV, .ref gaV])) := hfr2.at h_q1_f1E (fun z => (by rw [h_q1_f17] at z; cases z))
  have h_q3_f1P : f1P q3 = some (.inl (E.2.2.1 2, 120, .inl (fun _ => 0))) := hfr2.at h_q3_f1E (fun z => (by rw [h_q3_f17] at z; cases z))
  have h_a_f1P : f1P a = some (.inr (0, [.ref q3, .int 0, .ref q6, .ref q9, .ref q12, .ref nu, .ref q16, .null])) := hfr2.at h_a_f1E (fun z => (by rw [h_a_f17] at z; cases z))
  have hfr : gh_fr f f1P (fun b => b ∈ ([a] : List Nat)) := hfr.tr hfr2 (fun b e hb z => absurd z (hfrAtD b e hb).2)
  have hfkV : gh_fr f1V f1P (fun b => b ∈ ([a] : List Nat)) := hfkV.tr hfr2 (fun b e hb z => absurd z (hfkAtVD b e hb).2)
  have hfkR : gh_fr f1R f1P (fun b => b ∈ ([a] : List Nat)) := hfkR.tr hfr2 (fun b e hb z => absurd z (hfkAtRD b e hb).2)
  have hfkW : gh_fr f1W f1P (fun b => b ∈ ([a] : List Nat)) := hfkW.tr hfr2 (fun b e hb z => absurd z (hfkAtWD b e hb).2)
  have hfkU : gh_fr f1U f1P (fun b => b ∈ ([a] : List Nat)) := hfkU.tr hfr2 (fun b e hb z => absurd z (hfkAtUD b e hb).2)
  have hfkP : gh_fr f1P f1P (fun b => b ∈ ([a] : List Nat)) := gh_fr.rf
  refine lv_pop hx hb d_QM_init_89 rfl ?_
  refine lv_aload_n hx hb d_QM_init_90 rfl (lv_at hl 1 rfl) ?_
  refine gh_new (fs := [.null, .null, .int 0]) C V gc_Qu gi_Qu ty_Qu k_QM_46 n_Qu i_Qu (by decide) (by first | decide | omega | (dsimp only; omega)) (by first | decide | omega | (dsimp only; omega)) d_QM_init_91 (fun q19 H hnq19 V => ?_)
  obtain ⟨f20, hff20⟩ : ∃ z9 : gh_F, z9 = gh_u f1P q19 (.inr (2, [.null, .null, .int 0])) := ⟨_, rfl⟩
  have V : gh_V E A f20 s H locs := by rw [hff20]; exact V
  have nz_q19 : f q19 = none := hfr.non hnq19
  have hfr : gh_fr f f20 (fun b => b ∈ ([a] : List Nat)) := by rw [hff20]; exact hfr.put (Or.inr nz_q19)
  have ne_q1_q19 : q1 ≠ q19 := gh_ne0 h_q1_f1P hnq19
  have h_q1_f20 : f20 q1 = some (.inr (7, [.ref nu, .ref noV, .ref yeV, .ref niV, .ref alV, .ref gaV])) := by rw [hff20, gh_un ne_q1_q19]; exact h_q1_f1P
  have ne_q3_q19 : q3 ≠ q19 := gh_ne0 h_q3_f1P hnq19
  have h_q3_f20 : f20 q3 = some (.inl (E.2.2.1 2, 120, .inl (fun _ => 0))) := by rw [hff20, gh_un ne_q3_q19]; exact h_q3_f1P
  have ne_a_q19 : a ≠ q19 := gh_ne0 h_a_f1P hnq19
  have h_a_f20 : f20 a = some (.inr (0, [.ref q3, .int 0, .ref q6, .ref q9, .ref q12, .ref nu, .ref q16, .null])) := by rw [hff20, gh_un ne_a_q19]; exact h_a_f1P
  have h_q19_f20 : f20 q19 = some (.inr (2, [.null, .null, .int 0])) := by rw [hff20, gh_us]
  have nkV_q19 : f1V q19 = none := hfkV.non hnq19
  have hfkV : gh_fr f1V f20 (fun b => b ∈ ([a] : List Nat)) := by rw [hff20]; exact hfkV.put (Or.inr nkV_q19)
  have nkR_q19 : f1R q19 = none := hfkR.non hnq19
  have hfkR : gh_fr f1R f20 (fun b => b ∈ ([a] : List Nat)) := by rw [hff20]; exact hfkR.put (Or.inr nkR_q19)
  have nkW_q19 : f1W q19 = none := hfkW.non hnq19
  have hfkW : gh_fr f1W f20 (fun b => b ∈ ([a] : List Nat)) := by rw [hff20]; exact hfkW.put (Or.inr nkW_q19)
  have nkU_q19 : f1U q19 = none := hfkU.non hnq19
  have hfkU : gh_fr f1U f20 (fun b => b ∈ ([a] : List Nat)) := by rw [hff20]; exact hfkU.put (Or.inr nkU_q19)
  have nkP_q19 : f1P q19 = none := hfkP.non hnq19
  have hfkP : gh_fr f1P f20 (fun b => b ∈ ([a] : List Nat)) := by rw [hff20]; exact hfkP.put (Or.inr nkP_q19)
  refine lv_dup hx hb d_QM_init_94 rfl ?_
  have hfrAtN := hfr
  have hfkAtVN := hfkV
  have hfkAtRN := hfkR
  have hfkAtWN := hfkW
  have hfkAtUN := hfkU
  have hfkAtPN := hfkP
  refine gh_callI C V hl.1 m_Qu_init l_QM_48 (k_Qu l E _ f20 q19 h_q19_f20) rfl ⟨by first | decide | omega | (dsimp only; omega), by first | decide | omega | (dsimp only; omega)⟩ ⟨by first | decide | omega | (dsimp only; omega), by first | decide | omega | (dsimp only; omega)⟩ (Nat.le_of_ble_eq_true rfl) rfl d_QM_init_95 (fun r f1N H locs hp V => ?_)
  obtain ⟨rfl, hQn, hfr2⟩ := hp
  have monN := hfr2
  refine W.eq (g2 := F0 m 98 ls [.ref q19, .ref a]) rfl ?_
  have h_q1_f1N : f1N q1 = some (.inr (7, [.ref nu, .ref noV, .ref yeV, .ref niV, .ref alV, .ref gaV])) := hfr2.at1 h_q1_f20 ne_q1_q19
  have h_q3_f1N : f1N q3 = some (.inl (E.2.2.1 2, 120, .inl (fun _ => 0))) := hfr2.at1 h_q3_f20 ne_q3_q19
  have h_a_f1N : f1N a = some (.inr (0, [.ref q3, .int 0, .ref q6, .ref q9, .ref q12, .ref nu, .ref q16, .null])) := hfr2.at1 h_a_f20 ne_a_q19
  have hfr : gh_fr f f1N (fun b => b ∈ ([a] : List Nat)) := hfr.tr1 hfr2 (Or.inr nz_q19)
  have hfkV : gh_fr f1V f1N (fun b => b ∈ ([a] : List Nat)) := hfkV.tr1 hfr2 (Or.inr nkV_q19)
  have hfkR : gh_fr f1R f1N (fun b => b ∈ ([a] : List Nat)) := hfkR.tr1 hfr2 (Or.inr nkR_q19)
  have hfkW : gh_fr f1W f1N (fun b => b ∈ ([a] : List Nat)) := hfkW.tr1 hfr2 (Or.inr nkW_q19)
  have hfkU : gh_fr f1U f1N (fun b => b ∈ ([a] : List Nat)) := hfkU.tr1 hfr2 (Or.inr nkU_q19)
  have hfkP : gh_fr f1P f1N (fun b => b ∈ ([a] : List Nat)) := hfkP.tr1 hfr2 (Or.inr nkP_q19)
  have hfkN : gh_fr f1N f1N (fun b => b ∈ ([a] : List Nat)) := gh_fr.rf
  refine gh_put C V h_a_f1N gc_QM gi_QM ty_QM nm_QM 7 (by decide) f_QM_61 rfl (by first | rfl | decide) (by first | rfl | decide) (Nat.le_of_ble_eq_true rfl) d_QM_init_98 (fun H locs V => ?_)
  obtain ⟨f21, hff21⟩ : ∃ z9 : gh_F, z9 = gh_u f1N a (.inr (0, [.ref q3, .int 0, .ref q6, .ref q9, .ref q12, .ref nu, .ref q16, .ref q19])) := ⟨_, rfl⟩
  have V : gh_V E A f21 s H locs := by rw [hff21]; exact V
  have hfr : gh_fr f f21 (fun b => b ∈ ([a] : List Nat)) := by rw [hff21]; exact hfr.put (Or.inl (by simp))
  have h_q1_f21 : f21 q1 = some (.inr (7, [.ref nu, .ref noV, .ref yeV, .ref niV, .ref alV, .ref gaV])) := by rw [hff21, gh_un (Ne.symm ne_a_q1)]; exact h_q1_f1N
  have h_q3_f21 : f21 q3 = some (.inl (E.2.2.1 2, 120, .inl (fun _ => 0))) := by rw [hff21, gh_un (Ne.symm ne_a_q3)]; exact h_q3_f1N
  have h_a_f21 : f21 a = some (.inr (0, [.ref q3, .int 0, .ref q6, .ref q9, .ref q12, .ref nu, .ref q16, .ref q19])) := by rw [hff21, gh_us]
  have hfkV : gh_fr f1V f21 (fun b => b ∈ ([a] : List Nat)) := by rw [hff21]; exact hfkV.put (Or.inl (by simp))
  have hfkR : gh_fr f1R f21 (fun b => b ∈ ([a] : List Nat)) := by rw [hff21]; exact hfkR.put (Or.inl (by simp))
  have hfkW : gh_fr f1W f21 (fun b => b ∈ ([a] : List Nat)) := by rw [hff21]; exact hfkW.put (Or.inl (by simp))
  have hfkU : gh_fr f1U f21 (fun b => b ∈ ([a] : List Nat)) := by rw [hff21]; exact hfkU.put (Or.inl (by simp))
  have hfkP : gh_fr f1P f21 (fun b => b ∈ ([a] : List Nat)) := by rw [hff21]; exact hfkP.put (Or.inl (by simp))
  have hfkN : gh_fr f1N f21 (fun b => b ∈ ([a] : List Nat)) := by rw [hff21]; exact hfkN.put (Or.inl (by simp))
  refine gh_retv hAe C V hr hlocks d_QM_init_101 (by first | decide | omega | (dsimp only; omega)) (by first | decide | omega | (dsimp only; omega)) ?_
  exact ⟨rfl, ⟨f2, f1V, f7, f1R, f10, f1W, f13, f1U, f17, f1P, f20, f1N, q1, nu, q6, q9, q12, q16, q19, q3, h_a_f21, h_q3_f21, ⟨hVs, hRe, hWr, hRu, hQp, hQn⟩, ⟨hfkV, hfkR, hfkW, hfkU, hfkP, hfkN⟩, ⟨fun b hb => monV.non hb, fun b hb => hfkAtVR.non hb, fun b hb => monR.non hb, fun b hb => hfkAtRW.non hb, fun b hb => monW.non hb, fun b hb => hfkAtWU.non hb, fun b hb => monU.non hb, fun b hb => hfkAtUD.non hb, fun b hb => monD.non (monDE.non (monE.non (monP.non hb))), fun b hb => hfkAtPN.non hb, fun b hb => monN.non hb, fun b hb => hfkN.non hb⟩, (by rw [h_a_f2]; exact fun z => by cases z), (by rw [h_q3_f7]; exact fun z => by cases z), nkV_q3, nkP_q19, ne_a_q1, ne_a_q6, ne_a_q9, ne_a_q12, ne_a_q16, ne_a_q19⟩, hfr⟩
