/-! Throwing: the exception's constructor (no stack traces), athrow, contracts that may throw. -/
theorem gt_ctor {p : Program} {l : Launch} {e : Env} {R : Room} {s : State} {m : MethodId} {args : Array Value} {below : List Frame} {meth : Method} {c : Code} {H : Heap} {locs : List Loc} {cells slots : Nat} {Q : State → Prop} {cc : ByteArray} {pc : Nat} {ls : Array Slot} {rest : List Value}
    (hexec : p.tables.exec = Jvm.exec) (hb : c.code = cc) (hls : ls.size = c.maxLocals) (htr : e.platform.stackTraces = false) {own cls : String} {ic : Nat} {names : List String} (hown : s.vm.findClass own = some m.cls) (hcls : Jvm.Bundle.fit cls = true) (hnames : ∀ n ∈ names, Jvm.Bundle.fit n = true)
    (h : ∀ w ∈ Jvm.Bundle.ownAtoms0 own ic cls names, w.before args s = true) (hold : ∀ (q : Nat) (cell : Cell), s.heap[q]? = some cell → cell.vm.isStatics = true → H[q]? = s.heap[q]?)
    {a : Nat} {cX : ClassId} {kX : Class} (hfoundX : s.vm.findClass cls = some cX) (hkX : s.vm.classes[cX]? = some kX) (hcell : H[a]? = some (freshCell cX kX)) (hnew : s.heap.size ≤ a) (hdg : decode cc pc = .ok (.invokespecial ic, 3))
    (hRf : names.length + 3 < R.frames) (hRl : ((Value.ref a :: rest).map fun v => v.category).sum + (13 * (names.length + 1) + 41) ≤ R.locals)
    (kk : ∀ (cell1 : Cell) (L4 : List Loc), cell1.vm = .none → cell1.cls = cX → (∀ q ∈ L4, q.base = a) → W p l e R s m args below meth c (H.setIfInBounds a cell1) (locs ++ L4) cells slots Q (F0 m (pc + 3) ls (.ref a :: rest))) :
    W p l e R s m args below meth c H locs cells slots Q (F0 m pc ls (.ref a :: .ref a :: rest)) := by
  intro T0 hT X
  subst hT
  subst hb
  have howns : e.platform.frameOwnsMonitors = true := by rw [X.admits.platform]
  have hfin : e.platform.finalization = false := by rw [X.admits.platform]
  have hpl : e.platform.magicAccessors = ({} : Platform).magicAccessors := by rw [X.admits.platform]
  have a' : ∀ x, x ∈ Jvm.Bundle.ownAtoms0 own ic cls names → x.holds args s none s [] = true := fun x hx => h x hx
  obtain ⟨T, Z, L, LZ, Y⟩ := ThrowableC.of_atoms (args := args) howns hfin hpl (fun x hx => h x (by simp [Jvm.Bundle.ownAtoms0, hx]))
  obtain ⟨P1, Ps, hlen, L1, hL, hP1m, hlink1, hlink⟩ := Jvm.Bundle.chain0 (args := args) hpl Y.init0 names cls hcls hnames (fun x hx => h x (by simp [Jvm.Bundle.ownAtoms0, hx]))
  have hfound : s.vm.findClass cls = some P1.m.cls := findClass_of_methodNamed hP1m
  cases Option.some.inj (hfoundX.symm.trans hfound)
  obtain ⟨c1, kX', hc1, hk, hord, -, -, hn6⟩ := Cond.instantiable_spec (a' (.instantiable cls 6) (by simp [Jvm.Bundle.ownAtoms0]))
  cases Option.some.inj (hc1.symm.trans hfound)
  cases Option.some.inj (hkX.symm.trans hk)
  have hsel0 : selectMethod e.platform s.vm P1.m.cls T.fill0 = .method T.fill0 := by
    obtain ⟨c2, r2, m2, q1, q2, q3, q4, -⟩ := Cond.selects_spec (a' (.selects cls Jvm.Bundle.tFill0 Jvm.Bundle.tFill0) (by simp [Jvm.Bundle.ownAtoms0]))
    cases Option.some.inj (q1.symm.trans hfound)
    cases Option.some.inj (q2.symm.trans (State.methodFound?_of_named Y.fill0 (by decide)))
    cases Option.some.inj (q3.symm.trans Y.fill0)
    rw [Launch.admits_selectMethod X.admits]; exact q4
  have hselF : selectMethod e.platform s.vm P1.m.cls T.fill = .method T.fill := by
    obtain ⟨c2, r2, m2, q1, q2, q3, q4, -⟩ := Cond.selects_spec (a' (.selects cls Jvm.Bundle.tFill Jvm.Bundle.tFill) (by simp [Jvm.Bundle.ownAtoms0]))
    cases Option.some.inj (q1.symm.trans hfound)
    cases Option.some.inj (q2.symm.trans (State.methodFound?_of_named Y.fill (by decide)))
    cases Option.some.inj (q3.symm.trans Y.fill)
    rw [Launch.admits_selectMethod X.admits]; exact q4
  obtain ⟨cellS, hcS, hiss⟩ := Y.statics
  obtain ⟨u0, hu0⟩ := Cond.staticRefV Y.unassigned L.unassignedStatic L.statics hcS hiss (a' (.isRef (.static Jvm.Bundle.tN "UNASSIGNED_STACK" Jvm.Bundle.steD)) (by simp [Jvm.Bundle.ownAtoms0]))
  obtain ⟨sen, hsen⟩ := Cond.staticRefV Y.sentinel L.sentinelStatic L.statics hcS hiss (a' (.isRef (.static Jvm.Bundle.tN "SUPPRESSED_SENTINEL" Jvm.Bundle.listD)) (by simp [Jvm.Bundle.ownAtoms0]))
  obtain ⟨ci198, i198, fB, hk198, hg198, ha198, hsB, -, hnB, htB, hffB⟩ := Cond.ownField (t := .object "java/lang/Object") Y.found L.cls (by decide +kernel) (a' (.fieldLink Jvm.Bundle.tN 198 Jvm.Bundle.tN "backtrace" "Ljava/lang/Object;") (by simp [Jvm.Bundle.ownAtoms0])) (a' (.lays Jvm.Bundle.tN Jvm.Bundle.tN "backtrace" "Ljava/lang/Object;") (by simp [Jvm.Bundle.ownAtoms0])) e.platform hpl
  have hcellS : T0.heap[T.aS]? = some cellS := by rw [hold _ _ hcS hiss]; exact hcS
  have hknownS : cellS.vm ≠ .unknown := by
    intro hu
    rw [hu] at hiss
    cases hiss
  have hneS : T.aS ≠ a := Nat.ne_of_lt (Nat.lt_of_lt_of_le (Array.getElem?_eq_some_iff.mp hcS).1 hnew)
  obtain ⟨tyC, dC, hdC, hdnC⟩ := Cond.laysAt hfound hk Y.cause (a' (.lays cls Jvm.Bundle.tN "cause" "Ljava/lang/Throwable;") (by simp [Jvm.Bundle.ownAtoms0]))
  obtain ⟨tyS, dS, hdS, hdnS⟩ := Cond.laysAt hfound hk Y.stack (a' (.lays cls Jvm.Bundle.tN "stackTrace" Jvm.Bundle.steD) (by simp [Jvm.Bundle.ownAtoms0]))
  obtain ⟨tyP, dP, hdP, hdnP⟩ := Cond.laysAt hfound hk Y.supp (a' (.lays cls Jvm.Bundle.tN "suppressedExceptions" Jvm.Bundle.listD) (by simp [Jvm.Bundle.ownAtoms0]))
  obtain ⟨tyB, dB, hdB, hdnB⟩ := Cond.laysAt hfound hk hffB (a' (.lays cls Jvm.Bundle.tN "backtrace" "Ljava/lang/Object;") (by simp [Jvm.Bundle.ownAtoms0]))
  have bC := Cond.laysApart hdB hdC hdnB hdnC (by rw [hnB, Y.causeName]; decide)
  have bS := Cond.laysApart hdB hdS hdnB hdnS (by rw [hnB, Y.stackName]; decide)
  have bP := Cond.laysApart hdB hdP hdnB hdnP (by rw [hnB, Y.suppName]; decide)
  have hskip : SkipFacts T e.platform s (fun u => u) u0 ((preparedCellV T.toThrowableT (freshCell P1.m.cls kX) a u0 sen).withEntry T0.cur) :=
    ⟨{ ci198 := ci198, i198 := i198, fBack := fB }, ⟨hk198, hg198, ha198, hsB⟩, by
      have := fresh_default (c := P1.m.cls) tyB
      rw [htB] at this
      simpa [preparedCellV, Cell.setSlot, Cell.withEntry, Array.getElem?_setIfInBounds, bC, bS, bP, bC.symm, bS.symm, bP.symm, defaultValue] using this, fun _ _ => rfl⟩
  obtain ⟨tm, methC, cdC, kC, vm₁, hnC, -, -, -, -, -, -, -, hW₁, st1⟩ := Steps.initCold (tb := p.tables) (e := e) (below := below) (s := s) (U := T0) X.here hexec X.warmed hpl hown (t := Jvm.Bundle.init0 cls) rfl rfl (Jvm.Bundle.fit_spec hcls).2
    (a' (.methodLink own ic (Jvm.Bundle.init0 cls)) (by simp [Jvm.Bundle.ownAtoms0])) (h (.instanceMethod (Jvm.Bundle.init0 cls)) (by cases names <;> simp [Jvm.Bundle.ownAtoms0, Jvm.Bundle.chain0Atoms, Jvm.Bundle.passAtoms])) (bytes := Jvm.Bundle.five) (maxL := 1) (h (.code (Jvm.Bundle.init0 cls) Jvm.Bundle.five 1 none) (by cases names <;> simp [Jvm.Bundle.ownAtoms0, Jvm.Bundle.chain0Atoms, Jvm.Bundle.passAtoms]))
    (f := F0 m pc ls (.ref a :: .ref a :: rest)) rfl (a := a) (rest := .ref a :: rest) rfl hdg
  cases Option.some.inj (hnC.symm.trans hP1m)
  have X₁ := X.noted hW₁
  obtain ⟨vm₂, X₂, st2⟩ := X₁.ctorPlainOffV hexec (g := F0 m pc ls (.ref a :: rest)) rfl hls T L Z LZ (P1 :: Ps)
    (fun P hP => by rcases List.mem_cons.mp hP with rfl | hP; exact L1; exact hL P hP) ⟨hlink1, hlink⟩ (u0 := u0) (sen := sen) (self := a) (cell := freshCell P1.m.cls kX) (cellS := cellS)
    hcell (fun _ => by simp) (by simp) rfl rfl hsel0 hselF hcellS hneS hknownS hu0 hsen
    (Takes.of_laid hk hord tyC (by rw [Y.causeType]; rfl)) (Takes.of_laid hk hord tyS (by rw [Y.stackType]; exact fits_refV_array _ u0)) (Takes.of_laid hk hord tyP (by rw [Y.suppType]; exact fits_refV_object _ sen)) Y.objLocals hskip htr [] hdg
    (by simp only [List.length_cons, hlen]; omega) (by simp only [List.length_cons, hlen]; show 2 * 0 + _ + _ ≤ _; omega)
  obtain ⟨t, a1, b1⟩ := kk ((preparedCellV T.toThrowableT (freshCell P1.m.cls kX) a u0 sen).setSlot T.fStack.slot u0.v) _ rfl rfl (fun q hq => by
    simp only [List.mem_cons, List.not_mem_nil, or_false] at hq
    rcases hq with rfl | rfl | rfl | rfl <;> rfl) _ rfl X₂
  refine ⟨t, st1 _ (fun acts => ?_), b1⟩
  rw [doInvoke_state]
  exact st2 _ a1
/-- what was there as statics stays: it is neither a cell of the ghost heap nor new -/
theorem gt_old {E : gh_E} {A : Nat → Prop} {fe f : gh_F} {s : State} {H : Heap} {locs : List Loc} (hAe : A = gh_Fr fe s.heap.size) (V0 : gh_V E A fe s s.heap []) (V : gh_V E A f s H locs) (q : Nat) (cell : Cell) (hq : s.heap[q]? = some cell) (hi : cell.vm.isStatics = true) : H[q]? = s.heap[q]? := by
  have hlt : q < s.heap.size := (Array.getElem?_eq_some_iff.mp hq).1
  refine V.2.2.1 q hlt (fun hA => ?_)
  rw [hAe] at hA
  rcases hA with ⟨e, he⟩ | hA
  · have h1 := (V0.1 q e he).2
    cases e with
    | inl x =>
      have h2 : s.heap[q]? = some (vp_cell x.1 x.2) := h1
      rw [hq] at h2
      cases h2
      obtain ⟨cA, n, y⟩ := x
      rcases y with y | y | y | y | y <;> exact absurd hi (by intro z; cases z)
    | inr x =>
      obtain ⟨r, -, cell2, q1, -, q3, -⟩ := h1
      rw [hq] at q1
      cases q1
      rw [q3] at hi
      cases hi
  · omega
def gt_End (st t : State) (L : List Loc) (k n : Nat) : Prop := st.WarmedH t.vm ∧ st.sameButNew ({ t with vm := st.vm } : State) L k n
def gt_Ex (U : State) (x : Nat) (cls : String) : Prop := ∃ (cell : Cell) (k : Class), U.heap[x]? = some cell ∧ cell.vm = .none ∧ U.vm.findClass cls = some cell.cls ∧ U.vm.classes[cell.cls]? = some k
def gt_Q (E : gh_E) (f : gh_F) (post : Option Value → gh_F → Prop) (ex : String → gh_F → Prop) : Array Value → State → Outcome → State → Prop := fun _ st oc t => ∃ f' : gh_F, ((∃ r, oc = .returned r ∧ post r f') ∨ ∃ x cls, oc = .threw x ∧ ex cls f' ∧ gt_Ex t x cls) ∧ gh_W E f' t ∧ (∀ a e, f' a = some e → gh_Fr f st.heap.size a) ∧ va_F (gh_Fr f st.heap.size) st t
def gt_MQ (below : List Frame) (Qc : Array Value → State → Outcome → State → Prop) (a : Array Value) (s : State) (mc ms : Nat) (free : Addr → Prop) : State → Prop := fun t => ∃ o, t.status = .running ∧ Ended t below o ∧ Qc a s o t ∧ ∃ L, gt_End s t L mc ms ∧ ∀ q ∈ L, free q.base
/-- a contract of a method that may throw: 'ex' of the exception's class and of the ghost heap behind it -/
abbrev gt_M (l : Launch) (y : MethodName) (b : ByteArray) (n : Nat) (ret : Option FieldType) (E : gh_E) (sz : Nat) (av : List Value) (f : gh_F) (rm : Room) (post : Option Value → gh_F → Prop) (ex : String → gh_F → Prop) : Prop :=
  MetFree l y (headSpec (Cond.code y b n ret :: g_tbl) rm) (va_Pc av (fun U => U.heap.size = sz ∧ gh_W E f U)) (fun _ _ _ _ _ => True) (fun a st o t => gt_Q E f post ex a st o t ∧ ∃ L, gt_End st t L rm.cells rm.slots ∧ ∀ q ∈ L, gh_Fr f sz q.base)
theorem gt_open {l : Launch} {y : MethodName} {b : ByteArray} {n : Nat} {ret : Option FieldType} {E : gh_E} {sz : Nat} {av : List Value} {f : gh_F} {rm : Room} {post : Option Value → gh_F → Prop} {ex : String → gh_F → Prop} (hy : plainName y.cls = true) (hn : (lg_sl av).length ≤ n)
    (body : ∀ (p : Program) (e : Env) (s : State) (m : MethodId) (args : Array Value) (below : List Frame) (meth : Method) (c : Code) (A : Nat → Prop) (ls : Array Slot), l.admits e → c.exceptionTable.isEmpty = true → A = gh_Fr f s.heap.size → gh_C E A p s m args c b y.cls n → gh_V E A f s s.heap [] → meth.sig.returnType = ret → meth.locks = false → meth.name = y.name → lv_has ls n (lv_args 0 av) →
      W p l e rm s m args below meth c s.heap [] 0 0 (gt_MQ below (gt_Q E f post ex) args s rm.cells rm.slots A) (F0 m 0 ls [])) : gt_M l y b n ret E sz av f rm post ex := by
  refine MetFree.of_bodyS (code := b) (maxLocals := n) (ret := ret) hy ?_ ?_
  · intro args s m h hn
    obtain ⟨meth, c, h1, h2, h3, h4, h5, h6, -, -⟩ := Cond.code_spec hn (atoms_spec (ws := Cond.code y b n ret :: g_tbl) h _ List.mem_cons_self)
    exact ⟨meth, c, h1, h2, h3, h4, h5, h6⟩
  · intro p e s m args below meth c s₁ B hml hv _
    have hh0 : s₁.heap = s.heap := by rw [B.state]; rfl
    obtain ⟨rfl, rfl, hH, hK, hb, hZ⟩ := hv
    have hts := atoms_spec (ws := Cond.code y b n ret :: g_tbl) B.pre
    have hW := body p e s m av.toArray below meth c _ _ B.admits (B.noHandlers (hts _ List.mem_cons_self)) rfl ⟨B.exec, B.bytes, hml, findClass_of_methodNamed B.named, fun w hw => hts w (List.mem_cons_of_mem _ hw), hK, hb, hZ, fun q h => Or.inr h, fun q h => h.elim (fun ⟨e, he⟩ => (hH q e he).1) (fun h => Nat.le_trans hb h)⟩ ⟨hH.into (fun a e ha _ => Or.inl ⟨e, ha⟩), va_S.rf⟩ B.returns B.notSynchronized (name_of_methodNamed B.named B.method).1 (lv_entry av hn)
    rw [← lg_entry_eq] at hW
    obtain ⟨t, a1, o, b1, b2, b3⟩ := hW s₁ hh0 (Stand.of_body B)
    exact ⟨t, o, a1, b1, b2, ⟨b3.1, b3.2⟩⟩
section GT
variable {p : Program} {l : Launch} {e : Env} {R : Room} {s : State} {m : MethodId} {args : Array Value} {below : List Frame} {meth : Method} {c : Code} {H : Heap} {locs : List Loc} {cells slots : Nat} {Q : State → Prop}
variable {cc : ByteArray} {pc : Nat} {ls : Array Slot} {rest : List Value} {E : gh_E} {A : Nat → Prop} {f fe : gh_F} {own : String} {nL : Nat}
/-- a return, in a method that may throw -/
theorem gt_of {post : Option Value → gh_F → Prop} {ex : String → gh_F → Prop} {mc ms : Nat} {g : JFrame} (h : W p l e R s m args below meth c H locs cells slots (MQ below (gh_Q E fe post) args s mc ms A) g) : W p l e R s m args below meth c H locs cells slots (gt_MQ below (gt_Q E fe post ex) args s mc ms A) g := by
  intro T hT X
  obtain ⟨t, a1, o, b1, b2, ⟨r, f', rfl, hp, hW, hd, hF⟩, L, ⟨-, hw, hsame⟩, hL⟩ := h T hT X
  exact ⟨t, a1, _, b1, b2, ⟨f', Or.inl ⟨r, rfl, hp⟩, hW, hd, hF⟩, L, ⟨hw, hsame⟩, hL⟩
theorem gt_athrow {post : Option Value → gh_F → Prop} {ex : String → gh_F → Prop} {mc ms : Nat} (hAe : A = gh_Fr fe s.heap.size) (C : gh_C E A p s m args c cc own nL) (V : gh_V E A f s H locs) (hno : c.exceptionTable.isEmpty = true) (hlocks : meth.locks = false) {x : Nat} {cls : String} {cell : Cell} {k : Class} (hx : H[x]? = some cell) (hvm : cell.vm = .none) (hc : s.vm.findClass cls = some cell.cls) (hk : s.vm.classes[cell.cls]? = some k) (hdg : decode cc pc = .ok (.athrow, 1)) (h1 : cells ≤ mc) (h2 : slots ≤ ms) (hex : ex cls f) :
    W p l e R s m args below meth c H locs cells slots (gt_MQ below (gt_Q E fe post ex) args s mc ms A) (F0 m pc ls (.ref x :: rest)) := by
  refine W.widen h1 h2 ?_
  intro T hT X
  obtain ⟨hsteps, hrun, hend, hW, hsame⟩ := X.athrowLeaves C.1 (g := F0 m pc ls (.ref x :: rest)) rfl rfl rfl (covers_of_empty hno _) rfl (by rw [C.2.1]; exact hdg) hlocks
  obtain ⟨k', hk', he⟩ := hW.alike.2.2 _ _ hk
  have hh : (T.setFrames (.throwing x :: below)).heap = H := hT
  refine ⟨_, hsteps, .threw x, hrun, hend, ⟨f, Or.inr ⟨x, cls, rfl, hex, cell, k', by rw [hh]; exact hx, hvm, by rw [hW.alike.findClass]; exact hc, hk'⟩, gh_pre C.2.2.2.2.2.2.2.2.2 C.2.2.2.2.2.1 C.2.2.2.2.2.2.1 C.2.2.2.2.2.2.2.1 V _ hh hW, fun a e ha => by rw [← hAe]; exact (V.1 a e ha).1, by rw [← hAe]; exact V.2.F hh⟩, locs, ⟨hW, hsame⟩, V.2.2.2⟩
end GT
