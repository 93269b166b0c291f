/-! A call's exception is caught in the caller: by the first entry of its table, or by the second. -/
section GT3
variable {p : Program} {l : Launch} {e : Env} {R : Room} {s : State} {m : MethodId} {args : Array Value} {below : List Frame} {meth : Method} {c : Code} {locs : List Loc} {cells slots : Nat} {Q : State → Prop} {pc : Nat} {ls : Array Slot} {rest : List Value}
/-- one entry that covers the place: the state behind its resolving, and what the search does there -/
theorem gt_entry {T' : State} (X' : Stand p l e R s m args below meth c T' locs cells slots) {x : Nat} {cls C : String} (hx : gt_Ex T' x cls) {en : ExceptionTableEntry} {own : String} (hown : s.vm.findClass own = some m.cls) (hlk : (Cond.classLink own en.catchType C).before args s = true) (hins : (Cond.instantiable C 6).before args s = true) (hcov : covers en pc = true) (h0 : en.catchType ≠ 0) {u : Bool} (hasg : ∃ c1 t1, s.vm.findClass cls = some c1 ∧ s.vm.findClass C = some t1 ∧ s.vm.assignable c1 t1 = u) :
    ∃ vm₁, Stand p l e R s m args below meth c (T'.setVm vm₁) locs cells slots ∧ gt_Ex (T'.setVm vm₁) x cls ∧ ∀ (Q : Handler → Pre) (E : CtlPost) (d : Bool) (acts : List Action) (t : List ExceptionTableEntry) (S : State), S.vm = T'.vm → S.heap = T'.heap →
      (wp (findHandler.go (F0 m pc ls rest) x (en :: t)) Q E e d acts S ↔ if u = true then Q (.found en.handlerPc) d acts (S.setVm vm₁) else wp (findHandler.go (F0 m pc ls rest) x t) Q E e d acts (S.setVm vm₁)) := by
  have hpl : e.platform.magicAccessors = ({} : Platform).magicAccessors := by rw [X'.admits.platform]
  obtain ⟨cC, hfcc, hcl⟩ := Cond.classLink_spec hown hlk e.platform hpl
  obtain ⟨hg₁, hwarm₁, hready₁⟩ := State.classEntry (e := e) X'.warmed hcl
  have hszN : (T'.vm.noted m.cls en.catchType (.cls cC)).classes.size ≤ T'.vm.classes.size := by no_record
  generalize T'.vm.noted m.cls en.catchType (.cls cC) = vm₁ at hg₁ hwarm₁ hready₁ hszN
  obtain ⟨cell, k, g1, g2, g3, g4⟩ := hx
  obtain ⟨c1, t1, a1, a2, a3⟩ := hasg
  have hc1 : c1 = cell.cls := by
    have := X'.warmed.alike.findClass cls
    rw [this] at g3
    exact Option.some.inj (a1.symm.trans g3)
  subst hc1
  cases hfcc.symm.trans a2
  obtain ⟨k0, hk0, -⟩ := X'.warmed.alike.symm.2.2 _ _ g4
  obtain ⟨k1, hk1, -⟩ := hwarm₁.alike.2.2 _ _ hk0
  obtain ⟨kc, hkc, -⟩ := hready₁
  have hasg1 : vm₁.assignable cell.cls cC = u := by rw [hwarm₁.alike.assignable]; exact a3
  refine ⟨vm₁, X'.noted hwarm₁, ⟨cell, k1, g1, g2, ?_, hk1⟩, fun Q E d acts t S hv hh => ?_⟩
  · show vm₁.findClass cls = _
    rw [hwarm₁.alike.findClass]; exact a1
  · have hcC : ∃ k, vm₁.classes[cC]? = some k := by
      obtain ⟨cI, kS, hI, hkS, -⟩ := Cond.instantiable_spec hins
      cases hfcc.symm.trans hI
      obtain ⟨kV, hkV, -⟩ := hwarm₁.alike.2.2 _ _ hkS
      exact ⟨kV, hkV⟩
    rw [gt_go_cold (f := F0 m pc ls rest) hcov h0 (by rw [hv]; exact hg₁) (by rw [hv]; exact hszN) (by rw [hh]; exact g1) (fun z h => by rw [g2] at h; cases h) ⟨k1, hk1⟩ hcC, hasg1]
theorem gt_caught1 {T' : State} (X' : Stand p l e R s m args below meth c T' locs cells slots) {x : Nat} {cls : String} (hx : gt_Ex T' x cls) {en : ExceptionTableEntry} {tl : List ExceptionTableEntry} (htab : c.exceptionTable.toList = en :: tl) {own : String} (hown : s.vm.findClass own = some m.cls) (hlk : (Cond.classLink own en.catchType cls).before args s = true) (hins : (Cond.instantiable cls 6).before args s = true) (hcov : covers en pc = true) (h0 : en.catchType ≠ 0) (hasg : va_Nw (.castable cls cls) s)
    (k : W p l e R s m args below meth c T'.heap locs cells slots Q (F0 m en.handlerPc ls [.ref x])) : ∃ t, Steps p.tables e below ((T'.setTop (F0 m pc ls rest)).pushFrame (.throwing x)) t ∧ Q t := by
  obtain ⟨vm₁, X₁, -, hf⟩ := gt_entry (pc := pc) (ls := ls) (rest := rest) X' hx hown hlk hins hcov h0 (u := true) (Cond.castable_spec (args := #[]) (first := s) (o := none) (s := s) (idx := []) hasg)
  obtain ⟨t, a1, b1⟩ := k (T'.setVm vm₁) rfl X₁
  refine ⟨t, gt_caughtS (g := F0 m pc ls rest) X'.here (fun Q E d acts => ?_) a1, b1⟩
  rw [W.findHandler_eq (meth := meth) (code := c) (by rw [Stand.throwing_vm]; exact X'.method') X'.code, htab, hf Q E d acts tl _ (Stand.throwing_vm _ _ _) (Stand.throwing_heap _ _ _), if_pos rfl]
theorem gt_caught2 {T' : State} (X' : Stand p l e R s m args below meth c T' locs cells slots) {x : Nat} {cls C1 : String} (hx : gt_Ex T' x cls) {e1 e2 : ExceptionTableEntry} {tl : List ExceptionTableEntry} (htab : c.exceptionTable.toList = e1 :: e2 :: tl) {own : String} (hown : s.vm.findClass own = some m.cls) (hlk1 : (Cond.classLink own e1.catchType C1).before args s = true) (hlk2 : (Cond.classLink own e2.catchType cls).before args s = true) (hins1 : (Cond.instantiable C1 6).before args s = true) (hins2 : (Cond.instantiable cls 6).before args s = true) (hcov1 : covers e1 pc = true) (hcov2 : covers e2 pc = true) (h1 : e1.catchType ≠ 0) (h2 : e2.catchType ≠ 0) (hnot : va_Nc cls C1 s) (hasg : va_Nw (.castable cls cls) s)
    (k : W p l e R s m args below meth c T'.heap locs cells slots Q (F0 m e2.handlerPc ls [.ref x])) : ∃ t, Steps p.tables e below ((T'.setTop (F0 m pc ls rest)).pushFrame (.throwing x)) t ∧ Q t := by
  obtain ⟨vm₁, X₁, hx1, hf1⟩ := gt_entry (pc := pc) (ls := ls) (rest := rest) X' hx hown hlk1 hins1 hcov1 h1 (u := false) hnot
  obtain ⟨vm₂, X₂, -, hf2⟩ := gt_entry (pc := pc) (ls := ls) (rest := rest) X₁ hx1 hown hlk2 hins2 hcov2 h2 (u := true) (Cond.castable_spec (args := #[]) (first := s) (o := none) (s := s) (idx := []) hasg)
  obtain ⟨t, a1, b1⟩ := k ((T'.setVm vm₁).setVm vm₂) rfl X₂
  refine ⟨t, gt_caughtS (g := F0 m pc ls rest) (vm' := vm₂) X'.here (fun Q E d acts => ?_) a1, b1⟩
  rw [W.findHandler_eq (meth := meth) (code := c) (by rw [Stand.throwing_vm]; exact X'.method') X'.code, htab, hf1 Q E d acts (e2 :: tl) _ (Stand.throwing_vm _ _ _) (Stand.throwing_heap _ _ _), if_neg (by decide)]
  rw [hf2 Q E d acts tl (((T'.setTop (F0 m pc ls rest)).pushFrame (.throwing x)).setVm vm₁) rfl (Stand.throwing_heap T' (F0 m pc ls rest) x), if_pos rfl]
  exact Iff.rfl
/-- no entry: the exception goes on to the caller's caller -/
theorem gt_leave {E : gh_E} {A : Nat → Prop} {f fe : gh_F} {cc : ByteArray} {own : String} {nL mc ms : Nat} {post : Option Value → gh_F → Prop} {ex : String → gh_F → Prop} (hAe : A = gh_Fr fe s.heap.size) (C : gh_C E A p s m args c cc own nL) (hno : c.exceptionTable.isEmpty = true) (hlocks : meth.locks = false) {x : Nat} {cls : String} {T' : State} (hex : ex cls f) (hx : gt_Ex T' x cls) (V : gh_V E A f s T'.heap locs) (X' : Stand p l e R s m args below meth c T' locs cells slots) (h1 : cells ≤ mc) (h2 : slots ≤ ms) :
    ∃ t, Steps p.tables e below ((T'.setTop (F0 m pc ls rest)).pushFrame (.throwing x)) t ∧ gt_MQ below (gt_Q E fe post ex) args s mc ms A t := by
  obtain ⟨hsteps, hrun, hend, hW, hsame⟩ := (stand_widen X' h1 h2).leaveThrown x (g := F0 m pc ls rest) rfl rfl rfl (covers_of_empty hno _) hlocks
  refine ⟨_, hsteps, .threw x, hrun, hend, ⟨f, Or.inr ⟨x, cls, rfl, hex, hx⟩, gh_pre C.2.2.2.2.2.2.2.2.2 C.2.2.2.2.2.1 C.2.2.2.2.2.2.1 C.2.2.2.2.2.2.2.1 V _ rfl hW, fun a e ha => by rw [← hAe]; exact (V.1 a e ha).1, by rw [← hAe]; exact V.2.F rfl⟩, locs, ⟨hW, hsame⟩, V.2.2.2⟩
end GT3
