/-! The rows of the walk over the ghost heap. E: the slots of the classes, the first address of the run, the array classes, the addresses of the statics. -/
abbrev gh_E : Type := va_G × Nat × (Nat → ClassId) × (Nat → Nat)
abbrev gh_A (E : gh_E) : Nat → Prop := fun q => E.2.1 ≤ q
def gh_ty (cy : Nat → ClassId) : List (ClassId × FieldType) := [(cy 0, .int), (cy 1, .long), (cy 2, .char), (cy 3, .boolean), (cy 4, .object R_Va), (cy 5, .object R_Ga), (cy 6, .object R_St)]
/-- how many parts stand in a part that begins with each byte: the class's own table -/
def gh_parts (k : Nat) : Int32 := ([0, 0, 0, 0, 0, 0, 0, 0, 2, 2, 2, 3, 1, 1, 3, 0, 1, 0, 0, 0, 0, 0, 2, 2, 2, 2, 2] : List Int32).getD k 0
abbrev X_IA : String := "java/lang/IllegalArgumentException"
abbrev X_IS : String := "java/lang/IllegalStateException"
abbrev X_NS : String := "java/util/NoSuchElementException"
abbrev X_IO : String := "java/lang/IndexOutOfBoundsException"
abbrev X_T : String := "java/lang/Throwable"
abbrev X_E : String := "java/lang/Exception"
abbrev X_R : String := "java/lang/RuntimeException"
theorem gx_ls {C n d : String} {A : Nat → Prop} {s U : State} (hW : s.WarmedH U.vm) (hz : va_Zq C n d A s s.heap) (hq : ∀ a : Nat, a < s.heap.size → ¬ A a → U.heap[a]? = s.heap[a]?) (h : (Cond.laysStatic C n d).before #[] s = true) : (Cond.laysStatic C n d).before #[] U = true := by
  have h1 : (Cond.laysStatic C n d).before #[] (s.setVm U.vm) = true := Cond.before_shiftedFace (State.Shifted.of_warmed hW) _ rfl h
  have hz1 : va_Zq C n d A (s.setVm U.vm) s.heap := hz.moved hW.alike
  obtain ⟨c, k, i, f, a, cell, q1, q2, q3, q4, q5, q6, q7, q8, q9⟩ := Cond.laysStatic_spec (args := #[]) (first := s.setVm U.vm) (o := none) (s := s.setVm U.vm) (idx := []) h1
  have hna : ¬ A a := by
    rcases hz1 with ⟨cf, kf, fi, f2, a2, cell2, z1, z2, z3, z4, z5, z6, z7, z8⟩ | ⟨t, cf, kf, fi, f2, a2, cell2, z1, z2, z3, z4, z5, z6, z7, z8⟩
    · cases q2.symm.trans z1
      cases q4.symm.trans z4
      exact z8
    · cases q2.symm.trans z1
      cases q4.symm.trans z4
      exact z8
  have q5' : s.heap[a]? = some cell := q5
  have hU : U.heap[a]? = some cell := by rw [hq a (Array.getElem?_eq_some_iff.mp q5').1 hna]; exact q5'
  have e1 : U.vm.findClass C = some c := q1
  have e2 : U.fieldFound? C n d = some (c, k, i, f) := q2
  simp [Cond.before, Cond.holds, Cond.value, e1, e2, q3, q4, hU, q6, q7, q8, q9]
/-- what the run needs besides: the step's own constructor, exceptions -/
def gh_Y (E : gh_E) (U : State) : Prop :=
  va_Nw (.methodLinkNest R_Ru 25 y_St_init R_QM) U ∧
  (va_Zq X_T "UNASSIGNED_STACK" "[Ljava/lang/StackTraceElement;" (gh_A E) U U.heap ∧ va_Zq X_T "SUPPRESSED_SENTINEL" "Ljava/util/List;" (gh_A E) U U.heap) ∧
  (va_Nw (.castable X_IA X_IA) U ∧ va_Nw (.castable X_IS X_IS) U ∧ va_Nw (.castable X_NS X_NS) U ∧ va_Nw (.castable X_IO X_IO) U) ∧
  (va_Nw (.declares ⟨X_R, "<init>", "()V"⟩) U ∧ va_Nw (.declares ⟨X_E, "<init>", "()V"⟩) U ∧ va_Nw (.declares ⟨X_T, "<init>", "()V"⟩) U) ∧
  (va_Nc X_IS X_IA U ∧ va_Nc X_IO X_NS U ∧ va_Nc X_IS X_NS U) ∧
  ((Cond.laysStatic X_T "UNASSIGNED_STACK" "[Ljava/lang/StackTraceElement;").before #[] U = true ∧ (Cond.laysStatic X_T "SUPPRESSED_SENTINEL" "Ljava/util/List;").before #[] U = true) ∧
  (va_Z "java/lang/String" "COMPACT_STRINGS" "Z" (.int 1) (gh_A E) U U.heap ∧ va_Zq "jdk/internal/util/Preconditions" "SIOOBE_FORMATTER" "Ljava/util/function/BiFunction;" (gh_A E) U U.heap)
theorem gh_Y.go {E : gh_E} {s U : State} (hW : s.WarmedH U.vm) (hq : ∀ a : Nat, a < s.heap.size → ¬ gh_A E a → U.heap[a]? = s.heap[a]?) (h : gh_Y E s) : gh_Y E U := by
  obtain ⟨h1, ⟨h2, h3⟩, ⟨c1, c2, c3, c4⟩, ⟨d1, d2, d3⟩, ⟨n1, n2, n3⟩, ⟨s1, s2⟩, y1, y2⟩ := h
  exact ⟨va_Nw.warmM hW h1, ⟨(h2.moved hW.alike).kept hq, (h3.moved hW.alike).kept hq⟩, ⟨va_Nw.warmC hW c1, va_Nw.warmC hW c2, va_Nw.warmC hW c3, va_Nw.warmC hW c4⟩, ⟨va_Nw.warmD hW d1, va_Nw.warmD hW d2, va_Nw.warmD hW d3⟩, ⟨va_Nc.moved hW.alike n1, va_Nc.moved hW.alike n2, va_Nc.moved hW.alike n3⟩, ⟨gx_ls hW h2 hq s1, gx_ls hW h3 hq s2⟩, (y1.moved hW.alike).kept hq, (y2.moved hW.alike).kept hq⟩
/-- what lies below the run: statics, String constants, words that are no good words -/
def gh_Z (E : gh_E) (U : State) : Prop :=
  va_Z R_Qu "PARTS_IN" "[I" (.ref (E.2.2.2 0)) (gh_A E) U U.heap ∧ va_T .int (E.2.2.2 0) 27 (fun k => .int (gh_parts k)) (gh_A E) U U.heap ∧
  va_Z R_Vs "NO_LETTERS" "[C" (.ref (E.2.2.2 1)) (gh_A E) U U.heap ∧ va_T .char (E.2.2.2 1) 0 (fun _ => .null) (gh_A E) U U.heap ∧
  vk_S 3 [4, 5, 4] [[110, 117, 108, 108], [102, 97, 108, 115, 101], [116, 114, 117, 101]] (fun i => E.2.2.2 (2 + i)) (fun i => E.2.2.2 (5 + i)) (gh_A E) U U.heap ∧
  (vk_R R_Re 60 "null" (E.2.2.2 2) U ∧ vk_R R_Re 72 "false" (E.2.2.2 3) U ∧ vk_R R_Re 77 "true" (E.2.2.2 4) U ∧ vk_R R_Wr 33 "null" (E.2.2.2 2) U ∧ vk_R R_Wr 39 "false" (E.2.2.2 3) U ∧ vk_R R_Wr 41 "true" (E.2.2.2 4) U) ∧
  va_AO R_Va U ∧ va_AO R_Ga U ∧ va_AO R_St U ∧ gh_Y E U
theorem gh_Z.go {E : gh_E} {s U : State} (hW : s.WarmedH U.vm) (hq : ∀ a : Nat, a < s.heap.size → ¬ gh_A E a → U.heap[a]? = s.heap[a]?) (h : gh_Z E s) : gh_Z E U := by
  obtain ⟨h1, h2, h3, h4, h5, ⟨r1, r2, r3, r4, r5, r6⟩, o1, o2, o3, o4⟩ := h
  exact ⟨(h1.moved hW.alike).kept hq, (h2.moved hW.alike).kept hq, (h3.moved hW.alike).kept hq, (h4.moved hW.alike).kept hq, (h5.moved hW.alike).kept hq, ⟨r1.warm hW, r2.warm hW, r3.warm hW, r4.warm hW, r5.warm hW, r6.warm hW⟩, o1.moved hW.alike, o2.moved hW.alike, o3.moved hW.alike, gh_Y.go hW hq o4⟩
theorem gh_Z.same {E : gh_E} {u U : State} (hv : U.vm = u.vm) (hh : U.heap = u.heap) (h : gh_Z E u) : gh_Z E U := gh_Z.go (by rw [hv]; exact State.WarmedH.refl u) (fun a _ _ => by rw [hh]) h
/-- a state that holds the ghost heap f -/
def gh_W (E : gh_E) (f : gh_F) (U : State) : Prop := gh_H E.1 gh_cl (gh_A E) f U.heap ∧ va_K E.1 gh_cl (gh_ty E.2.2.1) U ∧ E.2.1 ≤ U.heap.size ∧ gh_Z E U
/-- what stands fast in a walk -/
def gh_C (E : gh_E) (A : Nat → Prop) (p : Program) (s : State) (m : MethodId) (args : Array Value) (c : Code) (cc : ByteArray) (own : String) (nL : Nat) : Prop :=
  p.tables.exec = Jvm.exec ∧ c.code = cc ∧ c.maxLocals = nL ∧ s.vm.findClass own = some m.cls ∧ (∀ w ∈ g_tbl, w.before args s = true) ∧ va_K E.1 gh_cl (gh_ty E.2.2.1) s ∧ E.2.1 ≤ s.heap.size ∧ gh_Z E s ∧ (∀ q, s.heap.size ≤ q → A q) ∧ (∀ q, A q → gh_A E q)
/-- where a walk is: the heap holds f, nothing below the run has changed -/
def gh_V (E : gh_E) (A : Nat → Prop) (f : gh_F) (s : State) (H : Heap) (locs : List Loc) : Prop := gh_H E.1 gh_cl A f H ∧ va_S A s.heap H locs
def gh_Q (E : gh_E) (f : gh_F) (post : Option Value → gh_F → Prop) : Array Value → State → Outcome → State → Prop := fun _ st oc t => ∃ (r : Option Value) (f' : gh_F), oc = .returned r ∧ post r f' ∧ gh_W E f' t ∧ (∀ a e, f' a = some e → gh_Fr f st.heap.size a) ∧ va_F (gh_Fr f st.heap.size) st t
/-- a contract: from every state of sz cells that holds f, with these arguments: it returns; 'post' of the answer and of the ghost heap behind it -/
abbrev gh_M (l : Launch) (y : MethodName) (b : ByteArray) (n : Nat) (ret : Option FieldType) (E : gh_E) (sz : Nat) (av : List Value) (f : gh_F) (rm : Room) (post : Option Value → gh_F → Prop) : Prop :=
  Met l y (Cond.code y b n ret :: g_tbl) rm (va_Pc av (fun U => U.heap.size = sz ∧ gh_W E f U)) (gh_Q E f post) rm.cells rm.slots (gh_Fr f sz)
theorem gh_blind (E : gh_E) (f : gh_F) (sz : Nat) (av : List Value) : FrameBlind (va_Pc av (fun U => U.heap.size = sz ∧ gh_W E f U)) := by
  intro a U g mk h
  obtain ⟨h0, hs, h1, h2, h3, h4⟩ := h
  exact ⟨h0, hs, h1, va_K.moved (u := U) (U := U.calling g mk a) (Vm.Alike.refl U.vm) h2, h3, gh_Z.same (u := U) rfl rfl h4⟩
theorem gh_pre {E : gh_E} {A : Nat → Prop} {f : gh_F} {s : State} {H : Heap} {locs : List Loc} (hA : ∀ q, A q → gh_A E q) (hK : va_K E.1 gh_cl (gh_ty E.2.2.1) s) (hb : E.2.1 ≤ s.heap.size) (hZ : gh_Z E s) (V : gh_V E A f s H locs) (U : State) (hU : U.heap = H) (hW : s.WarmedH U.vm) : gh_W E f U :=
  ⟨by rw [hU]; exact V.1.into (fun a _ _ h => hA a h), va_K.moved hW.alike hK, by rw [hU]; exact Nat.le_trans hb V.2.1, gh_Z.go hW (fun a h1 h2 => by rw [hU]; exact V.2.2.1 a h1 (fun z => h2 (hA a z))) hZ⟩
theorem gh_open {l : Launch} {y : MethodName} {b : ByteArray} {n : Nat} {ret : Option FieldType} {E : gh_E} {sz : Nat} {av : List Value} {f : gh_F} {rm : Room} {post : Option Value → gh_F → Prop} (hy : plainName y.cls = true) (hn : (lg_sl av).length ≤ n)
    (body : ∀ (p : Program) (e : Env) (s : State) (m : MethodId) (args : Array Value) (below : List Frame) (meth : Method) (c : Code) (A : Nat → Prop) (ls : Array Slot), A = gh_Fr f s.heap.size → gh_C E A p s m args c b y.cls n → gh_V E A f s s.heap [] → meth.sig.returnType = ret → meth.locks = false → meth.name = y.name → lv_has ls n (lv_args 0 av) →
      W p l e rm s m args below meth c s.heap [] 0 0 (MQ below (gh_Q E f post) args s rm.cells rm.slots A) (F0 m 0 ls [])) : gh_M l y b n ret E sz av f rm post := by
  refine Met.ofW (cc := b) (maxL := n) (ret := ret) hy rfl ?_
  intro p e s m args below meth c s₁ B hml hv
  obtain ⟨rfl, rfl, hH, hK, hb, hZ⟩ := hv
  have hts := atoms_spec (ws := Cond.code y b n ret :: g_tbl) B.pre
  rw [lg_entry_eq]
  exact body p e s m av.toArray below meth c _ _ rfl ⟨B.exec, B.bytes, hml, findClass_of_methodNamed B.named, fun w hw => hts w (List.mem_cons_of_mem _ hw), hK, hb, hZ, fun q h => Or.inr h, fun q h => h.elim (fun ⟨e, he⟩ => (hH q e he).1) (fun h => Nat.le_trans hb h)⟩ ⟨hH.into (fun a e ha _ => Or.inl ⟨e, ha⟩), va_S.rf⟩ B.returns B.notSynchronized (name_of_methodNamed B.named B.method).1 (lv_entry av hn)
section GR
variable {p : Program} {l : Launch} {e : Env} {R : Room} {s : State} {m : MethodId} {args : Array Value} {below : List Frame} {meth : Method} {c : Code} {H : Heap} {locs : List Loc} {cells slots : Nat} {Q : State → Prop}
variable {cc : ByteArray} {pc : Nat} {ls : Array Slot} {rest : List Value} {E : gh_E} {A : Nat → Prop} {f fe : gh_F} {own : String} {nL : Nat}
theorem gh_end {post : Option Value → gh_F → Prop} {r : Option Value} (hAe : A = gh_Fr fe s.heap.size) (C : gh_C E A p s m args c cc own nL) (V : gh_V E A f s H locs) (hp : post r f) : (∀ t : State, t.heap = H → s.WarmedH t.vm → gh_Q E fe post args s (.returned r) t) ∧ ∀ q ∈ locs, A q.base :=
  ⟨fun t ht hW => ⟨r, f, rfl, hp, gh_pre C.2.2.2.2.2.2.2.2.2 C.2.2.2.2.2.1 C.2.2.2.2.2.2.1 C.2.2.2.2.2.2.2.1 V t ht hW, fun a e ha => by rw [← hAe]; exact (V.1 a e ha).1, by rw [← hAe]; exact V.2.F ht⟩, V.2.2.2⟩
theorem gh_reti {post : Option Value → gh_F → Prop} {mc ms : Nat} {v : Int32} (hAe : A = gh_Fr fe s.heap.size) (C : gh_C E A p s m args c cc own nL) (V : gh_V E A f s H locs) (hr : meth.sig.returnType = some .int) (hlocks : meth.locks = false) (hdg : decode cc pc = .ok (.ireturn, 1)) (h1 : cells ≤ mc) (h2 : slots ≤ ms) (hp : post (some (.int v)) f) :
    W p l e R s m args below meth c H locs cells slots (MQ below (gh_Q E fe post) args s mc ms A) (F0 m pc ls [.int v]) :=
  W.widen h1 h2 (W.iret C.1 C.2.1 hr (gh_end hAe C V hp).1 (gh_end hAe C V hp).2 hdg hlocks)
theorem gh_retz {post : Option Value → gh_F → Prop} {mc ms : Nat} {v : Int32} {ty : FieldType} (hAe : A = gh_Fr fe s.heap.size) (C : gh_C E A p s m args c cc own nL) (V : gh_V E A f s H locs) (hr : meth.sig.returnType = some ty) (hn : narrow ty (.int v) = .int v) (hlocks : meth.locks = false) (hdg : decode cc pc = .ok (.ireturn, 1)) (h1 : cells ≤ mc) (h2 : slots ≤ ms) (hp : post (some (.int v)) f) :
    W p l e R s m args below meth c H locs cells slots (MQ below (gh_Q E fe post) args s mc ms A) (F0 m pc ls [.int v]) :=
  W.widen h1 h2 (W.zret C.1 C.2.1 hr hn (gh_end hAe C V hp).1 (gh_end hAe C V hp).2 hdg hlocks)
theorem gh_retl {post : Option Value → gh_F → Prop} {mc ms : Nat} {v : Int64} (hAe : A = gh_Fr fe s.heap.size) (C : gh_C E A p s m args c cc own nL) (V : gh_V E A f s H locs) (hr : meth.sig.returnType = some .long) (hlocks : meth.locks = false) (hdg : decode cc pc = .ok (.lreturn, 1)) (h1 : cells ≤ mc) (h2 : slots ≤ ms) (hp : post (some (.long v)) f) :
    W p l e R s m args below meth c H locs cells slots (MQ below (gh_Q E fe post) args s mc ms A) (F0 m pc ls [.long v]) :=
  W.widen h1 h2 (W.lret C.1 C.2.1 hr (gh_end hAe C V hp).1 (gh_end hAe C V hp).2 hdg hlocks)
theorem gh_retv {post : Option Value → gh_F → Prop} {mc ms : Nat} (hAe : A = gh_Fr fe s.heap.size) (C : gh_C E A p s m args c cc own nL) (V : gh_V E A f s H locs) (hr : meth.sig.returnType = none) (hlocks : meth.locks = false) (hdg : decode cc pc = .ok (.return_, 1)) (h1 : cells ≤ mc) (h2 : slots ≤ ms) (hp : post none f) :
    W p l e R s m args below meth c H locs cells slots (MQ below (gh_Q E fe post) args s mc ms A) (F0 m pc ls []) :=
  W.widen h1 h2 (W.vret C.1 C.2.1 hr (gh_end hAe C V hp).1 (gh_end hAe C V hp).2 hdg hlocks)
theorem gh_reta {post : Option Value → gh_F → Prop} {mc ms : Nat} {v : Value} {rt : FieldType} (hAe : A = gh_Fr fe s.heap.size) (C : gh_C E A p s m args c cc own nL) (V : gh_V E A f s H locs) (hr : meth.sig.returnType = some rt) (hrt : (∃ n, rt = .object n) ∨ ∃ t, rt = .array t) (hv : v = .null ∨ ∃ a, v = .ref a) (hlocks : meth.locks = false) (hdg : decode cc pc = .ok (.areturn, 1)) (h1 : cells ≤ mc) (h2 : slots ≤ ms) (hp : post (some v) f) :
    W p l e R s m args below meth c H locs cells slots (MQ below (gh_Q E fe post) args s mc ms A) (F0 m pc ls [v]) :=
  W.widen h1 h2 (W.aret C.1 C.2.1 hr hrt hv (gh_end hAe C V hp).1 (gh_end hAe C V hp).2 hdg hlocks)
theorem gh_get (C : gh_C E A p s m args c cc own nL) (V : gh_V E A f s H locs) {a ci : Nat} {fs : List Value} (he : f a = some (.inr (ci, fs))) {Cn : String} {T : u_T} {N : Nat} (hc : gh_cl[ci]? = some (Cn, T, N)) (hin : ∀ w ∈ u_ws Cn T N, w ∈ g_tbl) (k : Nat) (hk : k < N) {index : Nat} {ref name desc : String} {fin : Bool} (hlink : Cond.fieldLink own index ref name desc ∈ g_tbl) (hT : T k = (ref, name, desc, fin)) {v : Value} (hv : fs[k]? = some v) (hdg : decode cc pc = .ok (.getfield index, 3))
    (kk : W p l e R s m args below meth c H locs cells slots Q (F0 m (pc + 3) ls (v :: rest))) : W p l e R s m args below meth c H locs cells slots Q (F0 m pc ls (.ref a :: rest)) :=
  va_get (ref := ref) C.1 C.2.1 C.2.2.2.2.1 hin C.2.2.2.1 C.2.2.2.2.2.1 (V.1.one he) 0 rfl hc k hk (by rw [hT]; exact C.2.2.2.2.1 _ hlink) (by rw [hT]; exact fun _ h => h) hv hdg kk
theorem gh_put (C : gh_C E A p s m args c cc own nL) (V : gh_V E A f s H locs) {a ci : Nat} {fs : List Value} (he : f a = some (.inr (ci, fs))) {Cn : String} {T : u_T} {N : Nat} (hc : gh_cl[ci]? = some (Cn, T, N)) (hin : ∀ w ∈ u_ws Cn T N, w ∈ g_tbl) {ty0 : Nat → FieldType} (hty : ∀ k, k < N → parseFieldDescriptor (T k).2.2.1 = some (ty0 k)) (hnm : ∀ a, a < N → ∀ b, b < N → a ≠ b → (T a).2.1 ≠ (T b).2.1) (k : Nat) (hk : k < N) {index : Nat} {ref name desc : String} (hlink : Cond.fieldLink own index ref name desc ∈ g_tbl) (hT : T k = (ref, name, desc, false)) {v : Value} (hn : narrow (ty0 k) v = v) (hfit : fits (ty0 k) v = true) (hl : k < fs.length) (hdg : decode cc pc = .ok (.putfield index, 3))
    (kk : ∀ (H1 : Heap) (locs1 : List Loc), gh_V E A (gh_u f a (.inr (ci, fs.set k v))) s H1 locs1 → W p l e R s m args below meth c H1 locs1 cells slots Q (F0 m (pc + 3) ls rest)) : W p l e R s m args below meth c H locs cells slots Q (F0 m pc ls (v :: .ref a :: rest)) := by
  obtain ⟨j, hj⟩ := gh_l_get (V.1.lt he) he
  exact va_put (ref := ref) C.1 C.2.1 C.2.2.2.2.1 hin ty0 hty hnm C.2.2.2.1 C.2.2.2.2.2.1 V.1.P V.1.D V.2 j hj hc k hk (by rw [hT]; exact C.2.2.2.2.1 _ hlink) (by rw [hT]; exact fun _ h => h) (by rw [hT]) (hty k hk) hn hfit hl hdg (fun H1 locs1 hP _ hS => kk H1 locs1 ⟨V.1.set rfl hj hP, hS⟩)
theorem gh_putF (C : gh_C E A p s m args c cc own nL) (V : gh_V E A f s H locs) (hini : meth.name = "<init>") {a ci : Nat} {fs : List Value} (he : f a = some (.inr (ci, fs))) {T : u_T} {N : Nat} (hc : gh_cl[ci]? = some (own, T, N)) (hin : ∀ w ∈ u_ws own T N, w ∈ g_tbl) {ty0 : Nat → FieldType} (hty : ∀ k, k < N → parseFieldDescriptor (T k).2.2.1 = some (ty0 k)) (hnm : ∀ a, a < N → ∀ b, b < N → a ≠ b → (T a).2.1 ≠ (T b).2.1) (k : Nat) (hk : k < N) {index : Nat} {name desc : String} (hlink : Cond.fieldLink own index own name desc ∈ g_tbl) (hT : T k = (own, name, desc, true)) {v : Value} (hn : narrow (ty0 k) v = v) (hfit : fits (ty0 k) v = true) (hl : k < fs.length) (hdg : decode cc pc = .ok (.putfield index, 3))
    (kk : ∀ (H1 : Heap) (locs1 : List Loc), gh_V E A (gh_u f a (.inr (ci, fs.set k v))) s H1 locs1 → W p l e R s m args below meth c H1 locs1 cells slots Q (F0 m (pc + 3) ls rest)) : W p l e R s m args below meth c H locs cells slots Q (F0 m pc ls (v :: .ref a :: rest)) := by
  obtain ⟨j, hj⟩ := gh_l_get (V.1.lt he) he
  exact va_putF (ref := own) C.1 C.2.1 C.2.2.2.2.1 hin ty0 hty hnm C.2.2.2.1 C.2.2.2.2.2.1 V.1.P V.1.D V.2 j hj hc k hk (by rw [hT]; exact C.2.2.2.2.1 _ hlink) (by rw [hT]; exact fun _ h => h) (by rw [hT]) hini (by rw [hT]) (hty k hk) hn hfit hl hdg (fun H1 locs1 hP _ hS => kk H1 locs1 ⟨V.1.set rfl hj hP, hS⟩)
theorem gh_new (C : gh_C E A p s m args c cc own nL) (V : gh_V E A f s H locs) {ci : Nat} {Cn : String} {T : u_T} {N index : Nat} (hc : gh_cl[ci]? = some (Cn, T, N)) (hin : ∀ w ∈ u_ws Cn T N, w ∈ g_tbl) {ty0 : Nat → FieldType} (hty : ∀ k, k < N → parseFieldDescriptor (T k).2.2.1 = some (ty0 k)) (hcl : Cond.classLink own index Cn ∈ g_tbl) (hins : Cond.instantiable Cn N ∈ g_tbl) (hini : Cond.initialized Cn ∈ g_tbl) {fs : List Value} (hfs : ∀ j, j < N → defaultValue (ty0 j) = vp_V fs j) (h1 : cells + 1 ≤ R.cells) (h2 : slots + N ≤ R.slots) (hdg : decode cc pc = .ok (.new index, 3))
    (kk : ∀ (q : Nat) (H1 : Heap), f q = none → gh_V E A (gh_u f q (.inr (ci, fs))) s H1 locs → W p l e R s m args below meth c H1 locs (cells + 1) (slots + N) Q (F0 m (pc + 3) ls (.ref q :: rest))) : W p l e R s m args below meth c H locs cells slots Q (F0 m pc ls rest) :=
  va_new C.1 C.2.1 C.2.2.2.2.1 hin ty0 hty C.2.2.2.1 (C.2.2.2.2.1 _ hcl) (C.2.2.2.2.1 _ hins) (C.2.2.2.2.1 _ hini) C.2.2.2.2.2.1 V.1.P V.1.D V.2 C.2.2.2.2.2.2.2.2.1 hc hfs h1 h2 hdg (fun q H1 hP hD hS => kk q H1 (V.1.push rfl hP hD).1 ⟨(V.1.push rfl hP hD).2.2, hS⟩)
theorem gh_newa (C : gh_C E A p s m args c cc own nL) (V : gh_V E A f s H locs) {atype : ArrayType} {ty : FieldType} (hty : newarray.typeOf atype = ty) (hw : Cond.arrayClass (newarray.typeOf atype) ∈ g_tbl) {t0 : Nat} {cA : ClassId} (ht : (gh_ty E.2.2.1)[t0]? = some (cA, ty)) (hobj : ∀ C, ty ≠ .object C) {n : Int32} {N : Nat} {a0 : vp_A} (ha : ∀ cA : ClassId, vp_cell cA a0 = arrV cA N (fun _ => defaultValue ty)) (hn : ¬ n < 0) (hN : n.toNatClampNeg = N) (hbytes : N * componentBytes ty ≤ 536870912) (h1 : cells + 1 ≤ R.cells) (h2 : slots + N ≤ R.slots) (hdg : decode cc pc = .ok (.newarray atype, 2))
    (kk : ∀ (q : Nat) (H1 : Heap), f q = none → gh_V E A (gh_u f q (.inl (cA, a0))) s H1 locs → W p l e R s m args below meth c H1 locs (cells + 1) (slots + N) Q (F0 m (pc + 2) ls (.ref q :: rest))) : W p l e R s m args below meth c H locs cells slots Q (F0 m pc ls (.int n :: rest)) := by
  refine va_newa C.1 C.2.1 (C.2.2.2.2.1 _ hw) hty C.2.2.2.2.2.1 V.1.P V.1.D V.2 C.2.2.2.2.2.2.2.2.1 ha hn hN hbytes h1 h2 hdg (fun q cB H1 hK hP hD hS => ?_)
  have e1 : va_RA s cB ty := (hK.2 (gh_ty E.2.2.1).length (cB, ty) (by simp)).2
  have e2 : va_RA s cA ty := (C.2.2.2.2.2.1.2 t0 (cA, ty) ht).2
  have e3 : cB = cA := by
    cases ty with
    | object C => exact absurd rfl (hobj C)
    | _ => exact Option.some.inj (e1.symm.trans e2)
  subst e3
  exact kk q H1 (V.1.push rfl hP hD).1 ⟨(V.1.push rfl hP hD).2.2, hS⟩
theorem gh_newq (C : gh_C E A p s m args c cc own nL) (V : gh_V E A f s H locs) {Cn : String} {index : Nat} (hcl : Cond.classLink own index Cn ∈ g_tbl) (hover : va_AO Cn s) {t0 : Nat} {cA : ClassId} (ht : (gh_ty E.2.2.1)[t0]? = some (cA, .object Cn)) {n : Int32} {N : Nat} (hn : ¬ n < 0) (hN : n.toNatClampNeg = N) (hbytes : N * 4 ≤ 536870912) (h1 : cells + 1 ≤ R.cells) (h2 : slots + N ≤ R.slots) (hdg : decode cc pc = .ok (.anewarray index, 3))
    (kk : ∀ (q : Nat) (H1 : Heap), f q = none → gh_V E A (gh_u f q (.inl (cA, N, .inr (.inr (.inr (.inr (fun _ => none))))))) s H1 locs → W p l e R s m args below meth c H1 locs (cells + 1) (slots + N) Q (F0 m (pc + 3) ls (.ref q :: rest))) : W p l e R s m args below meth c H locs cells slots Q (F0 m pc ls (.int n :: rest)) := by
  refine va_newq C.1 C.2.1 C.2.2.2.1 (C.2.2.2.2.1 _ hcl) hover C.2.2.2.2.2.1 V.1.P V.1.D V.2 C.2.2.2.2.2.2.2.2.1 hn hN hbytes h1 h2 hdg (fun q cB H1 hK hP hD hS => ?_)
  obtain ⟨-, -, -, -, -, e1⟩ := (hK.2 (gh_ty E.2.2.1).length (cB, .object Cn) (by simp)).2
  obtain ⟨-, -, -, -, -, e2⟩ := (C.2.2.2.2.2.1.2 t0 (cA, .object Cn) ht).2
  have e3 : cB = cA := Option.some.inj (e1.symm.trans e2)
  subst e3
  exact kk q H1 (V.1.push rfl hP hD).1 ⟨(V.1.push rfl hP hD).2.2, hS⟩
theorem gh_iald (C : gh_C E A p s m args c cc own nL) (V : gh_V E A f s H locs) {a n : Nat} {g : Nat → Int32} (he : f a = some (.inl (E.2.2.1 0, n, .inl g))) {i : Int32} (hin : vp_in i n) (hdg : decode cc pc = .ok (.iaload, 1))
    (kk : W p l e R s m args below meth c H locs cells slots Q (F0 m (pc + 1) ls (.int (g i.toNatClampNeg) :: rest))) : W p l e R s m args below meth c H locs cells slots Q (F0 m pc ls (.int i :: .ref a :: rest)) :=
  va_iald C.1 C.2.1 C.2.2.2.2.2.1 (V.1.one he) 0 0 rfl rfl hin hdg kk
theorem gh_lald (C : gh_C E A p s m args c cc own nL) (V : gh_V E A f s H locs) {a n : Nat} {g : Nat → Int64} (he : f a = some (.inl (E.2.2.1 1, n, .inr (.inl g)))) {i : Int32} (hin : vp_in i n) (hdg : decode cc pc = .ok (.laload, 1))
    (kk : W p l e R s m args below meth c H locs cells slots Q (F0 m (pc + 1) ls (.long (g i.toNatClampNeg) :: rest))) : W p l e R s m args below meth c H locs cells slots Q (F0 m pc ls (.int i :: .ref a :: rest)) :=
  va_lald C.1 C.2.1 C.2.2.2.2.2.1 (V.1.one he) 0 1 rfl rfl hin hdg kk
theorem gh_cald (C : gh_C E A p s m args c cc own nL) (V : gh_V E A f s H locs) {a n : Nat} {g : Nat → Int32} (he : f a = some (.inl (E.2.2.1 2, n, .inl g))) {i : Int32} (hin : vp_in i n) (hdg : decode cc pc = .ok (.caload, 1))
    (kk : W p l e R s m args below meth c H locs cells slots Q (F0 m (pc + 1) ls (.int (g i.toNatClampNeg) :: rest))) : W p l e R s m args below meth c H locs cells slots Q (F0 m pc ls (.int i :: .ref a :: rest)) :=
  va_cald C.1 C.2.1 C.2.2.2.2.2.1 (V.1.one he) 0 2 rfl rfl hin hdg kk
theorem gh_zald (C : gh_C E A p s m args c cc own nL) (V : gh_V E A f s H locs) {a n : Nat} {g : Nat → Int32} (he : f a = some (.inl (E.2.2.1 3, n, .inl g))) {i : Int32} (hin : vp_in i n) (hdg : decode cc pc = .ok (.baload, 1))
    (kk : W p l e R s m args below meth c H locs cells slots Q (F0 m (pc + 1) ls (.int (g i.toNatClampNeg) :: rest))) : W p l e R s m args below meth c H locs cells slots Q (F0 m pc ls (.int i :: .ref a :: rest)) :=
  va_zald C.1 C.2.1 C.2.2.2.2.2.1 (V.1.one he) 0 3 rfl rfl hin hdg kk
theorem gh_aald (C : gh_C E A p s m args c cc own nL) (V : gh_V E A f s H locs) {a n t0 : Nat} {cA : ClassId} {Cn : String} (ht : (gh_ty E.2.2.1)[t0]? = some (cA, .object Cn)) {g : Nat → Option Nat} (he : f a = some (.inl (cA, n, .inr (.inr (.inr (.inr g)))))) {i : Int32} (hin : vp_in i n) (hdg : decode cc pc = .ok (.aaload, 1))
    (kk : W p l e R s m args below meth c H locs cells slots Q (F0 m (pc + 1) ls (va_rf (g i.toNatClampNeg) :: rest))) : W p l e R s m args below meth c H locs cells slots Q (F0 m pc ls (.int i :: .ref a :: rest)) :=
  va_aldq C.1 C.2.1 C.2.2.2.2.2.1 (V.1.one he) 0 t0 rfl ht hin hdg kk
theorem gh_alen (C : gh_C E A p s m args c cc own nL) (V : gh_V E A f s H locs) {a t0 : Nat} {cA : ClassId} {ty : FieldType} (ht : (gh_ty E.2.2.1)[t0]? = some (cA, ty)) {x : vp_A} (he : f a = some (.inl (cA, x))) {v : Int32} (hv : Int32.ofNat x.1 = v) (hdg : decode cc pc = .ok (.arraylength, 1))
    (kk : W p l e R s m args below meth c H locs cells slots Q (F0 m (pc + 1) ls (.int v :: rest))) : W p l e R s m args below meth c H locs cells slots Q (F0 m pc ls (.ref a :: rest)) :=
  va_alen C.1 C.2.1 C.2.2.2.2.2.1 (V.1.one he) 0 t0 rfl ht hv hdg kk
theorem gh_iast (C : gh_C E A p s m args c cc own nL) (V : gh_V E A f s H locs) {a n : Nat} {g : Nat → Int32} (he : f a = some (.inl (E.2.2.1 0, n, .inl g))) {i x : Int32} (hin : vp_in i n) (hdg : decode cc pc = .ok (.iastore, 1))
    (kk : ∀ (H1 : Heap) (locs1 : List Loc), gh_V E A (gh_u f a (.inl (E.2.2.1 0, n, .inl (upd g i.toNatClampNeg x)))) s H1 locs1 → W p l e R s m args below meth c H1 locs1 cells slots Q (F0 m (pc + 1) ls rest)) : W p l e R s m args below meth c H locs cells slots Q (F0 m pc ls (.int x :: .int i :: .ref a :: rest)) := by
  obtain ⟨j, hj⟩ := gh_l_get (V.1.lt he) he
  exact va_iast C.1 C.2.1 C.2.2.2.2.2.1 V.1.P V.1.D V.2 j 0 hj rfl hin hdg (fun H1 locs1 hP _ hS => kk H1 locs1 ⟨V.1.set rfl hj hP, hS⟩)
theorem gh_last (C : gh_C E A p s m args c cc own nL) (V : gh_V E A f s H locs) {a n : Nat} {g : Nat → Int64} (he : f a = some (.inl (E.2.2.1 1, n, .inr (.inl g)))) {i : Int32} {x : Int64} (hin : vp_in i n) (hdg : decode cc pc = .ok (.lastore, 1))
    (kk : ∀ (H1 : Heap) (locs1 : List Loc), gh_V E A (gh_u f a (.inl (E.2.2.1 1, n, .inr (.inl (vp_updL g i.toNatClampNeg x))))) s H1 locs1 → W p l e R s m args below meth c H1 locs1 cells slots Q (F0 m (pc + 1) ls rest)) : W p l e R s m args below meth c H locs cells slots Q (F0 m pc ls (.long x :: .int i :: .ref a :: rest)) := by
  obtain ⟨j, hj⟩ := gh_l_get (V.1.lt he) he
  exact va_last C.1 C.2.1 C.2.2.2.2.2.1 V.1.P V.1.D V.2 j 1 hj rfl hin hdg (fun H1 locs1 hP _ hS => kk H1 locs1 ⟨V.1.set rfl hj hP, hS⟩)
theorem gh_cast (C : gh_C E A p s m args c cc own nL) (V : gh_V E A f s H locs) {a n : Nat} {g : Nat → Int32} (he : f a = some (.inl (E.2.2.1 2, n, .inl g))) {i x : Int32} (hin : vp_in i n) (hdg : decode cc pc = .ok (.castore, 1))
    (kk : ∀ (H1 : Heap) (locs1 : List Loc), gh_V E A (gh_u f a (.inl (E.2.2.1 2, n, .inl (upd g i.toNatClampNeg (vp_nar .char x))))) s H1 locs1 → W p l e R s m args below meth c H1 locs1 cells slots Q (F0 m (pc + 1) ls rest)) : W p l e R s m args below meth c H locs cells slots Q (F0 m pc ls (.int x :: .int i :: .ref a :: rest)) := by
  obtain ⟨j, hj⟩ := gh_l_get (V.1.lt he) he
  exact va_cast C.1 C.2.1 C.2.2.2.2.2.1 V.1.P V.1.D V.2 j 2 hj rfl hin hdg (fun H1 locs1 hP _ hS => kk H1 locs1 ⟨V.1.set rfl hj hP, hS⟩)
theorem gh_zast (C : gh_C E A p s m args c cc own nL) (V : gh_V E A f s H locs) {a n : Nat} {g : Nat → Int32} (he : f a = some (.inl (E.2.2.1 3, n, .inl g))) {i x : Int32} (hin : vp_in i n) (hdg : decode cc pc = .ok (.bastore, 1))
    (kk : ∀ (H1 : Heap) (locs1 : List Loc), gh_V E A (gh_u f a (.inl (E.2.2.1 3, n, .inl (upd g i.toNatClampNeg (vp_nar .boolean x))))) s H1 locs1 → W p l e R s m args below meth c H1 locs1 cells slots Q (F0 m (pc + 1) ls rest)) : W p l e R s m args below meth c H locs cells slots Q (F0 m pc ls (.int x :: .int i :: .ref a :: rest)) := by
  obtain ⟨j, hj⟩ := gh_l_get (V.1.lt he) he
  exact va_zast C.1 C.2.1 C.2.2.2.2.2.1 V.1.P V.1.D V.2 j 3 hj rfl hin hdg (fun H1 locs1 hP _ hS => kk H1 locs1 ⟨V.1.set rfl hj hP, hS⟩)
theorem gh_aast (C : gh_C E A p s m args c cc own nL) (V : gh_V E A f s H locs) {a n t0 ci : Nat} {cA : ClassId} {r : vw_C} (ht : (gh_ty E.2.2.1)[t0]? = some (cA, .object r.1)) {g : Nat → Option Nat} (he : f a = some (.inl (cA, n, .inr (.inr (.inr (.inr g)))))) {v : Nat} {vs : List Value} (hv : f v = some (.inr (ci, vs))) (hc : gh_cl[ci]? = some r) {i : Int32} (hin : vp_in i n) (hdg : decode cc pc = .ok (.aastore, 1))
    (kk : ∀ (H1 : Heap) (locs1 : List Loc), gh_V E A (gh_u f a (.inl (cA, n, .inr (.inr (.inr (.inr (va_up g i.toNatClampNeg (some v)))))))) s H1 locs1 → W p l e R s m args below meth c H1 locs1 cells slots Q (F0 m (pc + 1) ls rest)) : W p l e R s m args below meth c H locs cells slots Q (F0 m pc ls (.ref v :: .int i :: .ref a :: rest)) := by
  obtain ⟨j, hj⟩ := gh_l_get (V.1.lt he) he
  obtain ⟨k, hk⟩ := gh_l_get (V.1.lt hv) hv
  exact va_astq C.1 C.2.1 C.2.2.2.2.2.1 V.1.P V.1.D V.2 j t0 k ci hj ht hk hc hin hdg (fun H1 locs1 hP _ hS => kk H1 locs1 ⟨V.1.set rfl hj hP, hS⟩)
end GR
