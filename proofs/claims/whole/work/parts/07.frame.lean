/-! Frames of ghost heaps: what was there stays, but for the cells of M; nothing goes. -/
def gh_fr (f g : gh_F) (M : Nat → Prop) : Prop := ∀ (b : Nat) (e : va_E), f b = some e → (¬ M b → g b = some e) ∧ g b ≠ none
theorem gh_fr.rf {f : gh_F} {M : Nat → Prop} : gh_fr f f M := fun b e h => ⟨fun _ => h, by rw [h]; exact fun z => by cases z⟩
theorem gh_fr.non {f g : gh_F} {M : Nat → Prop} (h : gh_fr f g M) {q : Nat} (hq : g q = none) : f q = none := by
  cases hf : f q with
  | none => rfl
  | some e => exact absurd hq (h q e hf).2
theorem gh_fr.put {f g : gh_F} {M : Nat → Prop} (h : gh_fr f g M) {a : Nat} {e : va_E} (hm : M a ∨ f a = none) : gh_fr f (gh_u g a e) M := by
  intro b e1 hb
  by_cases hba : b = a
  · subst hba
    rcases hm with hm | hm
    · exact ⟨fun hn => absurd hm hn, by rw [gh_us]; exact fun z => by cases z⟩
    · rw [hm] at hb; cases hb
  · rw [gh_un hba]
    exact h b e1 hb
theorem gh_fr.tr {f g k : gh_F} {M N : Nat → Prop} (h : gh_fr f g M) (h2 : gh_fr g k N) (hN : ∀ b e, f b = some e → N b → M b) : gh_fr f k M := by
  intro b e hb
  obtain ⟨h3, h4⟩ := h b e hb
  cases hg : g b with
  | none => exact absurd hg h4
  | some e1 =>
    obtain ⟨h5, h6⟩ := h2 b e1 hg
    refine ⟨fun hm => ?_, h6⟩
    have := h3 hm
    rw [hg] at this
    cases this
    exact h5 (fun z => hm (hN b e hb z))
theorem gh_fr.wide {f g : gh_F} {M N : Nat → Prop} (h : gh_fr f g M) (hN : ∀ b, M b → N b) : gh_fr f g N := fun b e hb => ⟨fun hn => (h b e hb).1 (fun z => hn (hN b z)), (h b e hb).2⟩
theorem gh_fr.at {f g : gh_F} {M : Nat → Prop} (h : gh_fr f g M) {b : Nat} {e : va_E} (hb : f b = some e) (hm : ¬ M b) : g b = some e := (h b e hb).1 hm
theorem gh_ne0 {f : gh_F} {a q : Nat} {e : va_E} (ha : f a = some e) (hq : f q = none) : a ≠ q := fun z => by rw [z, hq] at ha; cases ha
def gh_kind (e : va_E) : Nat := match e with
  | .inl _ => 100
  | .inr o => o.1
theorem gh_nek {f : gh_F} {a b : Nat} {e1 e2 : va_E} (h1 : f b = some e1) (h2 : f a = some e2) (hk : gh_kind e1 ≠ gh_kind e2) : b ≠ a := fun z => by
  rw [z, h2] at h1
  cases h1
  exact hk rfl
