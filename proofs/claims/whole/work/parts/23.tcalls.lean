/-! 'throw new X()' in one row; a call of a method that may throw. -/
section GT2
variable {p : Program} {l : Launch} {e : Env} {R : Room} {s : State} {m : MethodId} {args : Array Value} {below : List Frame} {meth : Method} {c : Code} {H : Heap} {locs : List Loc} {cells slots : Nat} {Q : State → Prop}
variable {cc : ByteArray} {pc : Nat} {ls : Array Slot} {rest : List Value} {E : gh_E} {A : Nat → Prop} {f fe : gh_F} {own : String} {nL : Nat}
theorem gt_throw {post : Option Value → gh_F → Prop} {ex : String → gh_F → Prop} {mc ms : Nat} (htr : e.platform.stackTraces = false) (hAe : A = gh_Fr fe s.heap.size) (V0 : gh_V E A fe s s.heap []) (C : gh_C E A p s m args c cc own nL) (V : gh_V E A f s H locs) (hls : ls.size = nL) (hno : c.exceptionTable.isEmpty = true) (hlocks : meth.locks = false) {cls : String} {ia ic : Nat}
    (hfit : Jvm.Bundle.fit cls = true) (hw : ∀ w ∈ Jvm.Bundle.ownAtoms0 own ic cls [X_R, X_E], w.before args s = true) (hc : Cond.classLink own ia cls ∈ g_tbl) (hn : Cond.instantiable cls 6 ∈ g_tbl) (hi : Cond.initialized cls ∈ g_tbl)
    (d0 : decode cc pc = .ok (.new ia, 3)) (d3 : decode cc (pc + 3) = .ok (.dup, 1)) (d4 : decode cc (pc + 4) = .ok (.invokespecial ic, 3)) (d7 : decode cc (pc + 7) = .ok (.athrow, 1)) (h1 : cells + 1 ≤ R.cells) (h2 : slots + 6 ≤ R.slots) (h3 : 5 < R.frames) (h4 : (rest.map fun v => v.category).sum + 81 ≤ R.locals) (hm1 : cells + 1 ≤ mc) (hm2 : slots + 6 ≤ ms) (hex : ex cls f) :
    W p l e R s m args below meth c H locs cells slots (gt_MQ below (gt_Q E fe post ex) args s mc ms A) (F0 m pc ls rest) := by
  refine W.newc C.1 C.2.1 C.2.2.2.1 (C.2.2.2.2.1 _ hc) (C.2.2.2.2.1 _ hn) (C.2.2.2.2.1 _ hi) rfl d0 h1 h2 (fun cX kX hf hk hkind hsz => ?_)
  refine lv_dup (va := .ref H.size) C.1 C.2.1 d3 rfl ?_
  have hp : ∀ q : Nat, q < H.size → (H.push { cls := cX, slots := kX.instanceTypes.map defaultValue, vm := .none })[q]? = H[q]? := fun q hq => by
    rw [Array.getElem?_push, if_neg (by omega)]
  have V1 : gh_V E A f s (H.push { cls := cX, slots := kX.instanceTypes.map defaultValue, vm := .none }) locs := ⟨V.1.kept hp, by simp; exact Nat.le_succ_of_le V.2.1, fun q g1 g2 => by rw [hp q (Nat.lt_of_lt_of_le g1 V.2.1)]; exact V.2.2.1 q g1 g2, V.2.2.2⟩
  refine gt_ctor (names := [X_R, X_E]) C.1 C.2.1 (by rw [C.2.2.1]; exact hls) htr C.2.2.2.1 hfit (by decide +kernel) hw (fun q cell hq hq2 => gt_old hAe V0 V1 q cell hq hq2) hf hk (by rw [Array.getElem?_push, if_pos rfl]) V.2.1 d4 (by show 2 + 3 < R.frames; omega) (by
    have e9 : ((Value.ref H.size :: rest).map fun v => v.category).sum = 1 + (rest.map fun v => v.category).sum := by simp [Value.category]
    rw [e9]
    show _ + (13 * (2 + 1) + 41) ≤ R.locals
    omega) (fun cell1 L4 hvm hcls hL4 => ?_)
  have hp2 : ∀ q : Nat, q < H.size → ((H.push { cls := cX, slots := kX.instanceTypes.map defaultValue, vm := .none }).setIfInBounds H.size cell1)[q]? = H[q]? := fun q hq => by
    rw [Array.getElem?_setIfInBounds, if_neg (by omega)]; exact hp q hq
  have V2 : gh_V E A f s ((H.push { cls := cX, slots := kX.instanceTypes.map defaultValue, vm := .none }).setIfInBounds H.size cell1) (locs ++ L4) := ⟨V.1.kept hp2, by simp; exact Nat.le_succ_of_le V.2.1, fun q g1 g2 => by rw [hp2 q (Nat.lt_of_lt_of_le g1 V.2.1)]; exact V.2.2.1 q g1 g2, fun q hq => (List.mem_append.mp hq).elim (V.2.2.2 q) (fun h => by rw [hL4 q h]; exact C.2.2.2.2.2.2.2.2.1 _ V.2.1)⟩
  exact gt_athrow (x := H.size) (cell := cell1) (k := kX) hAe C V2 hno hlocks (by rw [Array.getElem?_setIfInBounds, if_pos rfl, if_pos (by simp)]) hvm (by rw [hcls]; exact hf) (by rw [hcls]; exact hk) d7 hm1 hm2 hex
theorem gt_callV (C : gh_C E A p s m args c cc own nL) (V : gh_V E A f s H locs) (hls : ls.size = nL) {y : MethodName} {b : ByteArray} {n k : Nat} {ret : Option FieldType} (M : gh_mv y b n ret k) {index : Nat} (hlink : Cond.methodLink own index y ∈ g_tbl) {rm : Room} {post : Option Value → gh_F → Prop} {ex : String → gh_F → Prop} {a ci : Nat} {As : List Value} (hM : gt_M l y b n ret E H.size (.ref a :: As) f rm post ex) (hk : As.length = k) {fs : List Value} (he : f a = some (.inr (ci, fs))) {T0 : u_T} {N : Nat} (hc : gh_cl[ci]? = some (y.cls, T0, N))
    (hR : rm.frames + 1 ≤ R.frames ∧ 8 + (n + 11) + rm.locals ≤ R.locals) (hf : cells + rm.cells ≤ R.cells ∧ slots + rm.slots ≤ R.slots) (hst : (rest.map fun v => v.category).sum ≤ 8) {st0 : List Value} (hs0 : st0 = As.reverse ++ .ref a :: rest) (hdg : decode cc pc = .ok (.invokevirtual index, 3))
    (kr : ∀ (r : Option Value) (f' : gh_F) (H1 : Heap) (locs1 : List Loc), post r f' → gh_V E A f' s H1 locs1 → W p l e R s m args below meth c H1 locs1 (cells + rm.cells) (slots + rm.slots) Q (F0 m (pc + 3) ls (r.toList ++ rest)))
    (kt : ∀ (x : Nat) (cls : String) (f' : gh_F) (T' : State) (locs1 : List Loc), ex cls f' → gt_Ex T' x cls → gh_V E A f' s T'.heap locs1 → Stand p l e R s m args below meth c T' locs1 (cells + rm.cells) (slots + rm.slots) → ∃ t, Steps p.tables e below ((T'.setTop (F0 m pc ls rest)).pushFrame (.throwing x)) t ∧ Q t) :
    W p l e R s m args below meth c H locs cells slots Q (F0 m pc ls st0) := by
  have hFA : ∀ q, gh_Fr f H.size q → A q := fun q h => h.elim (fun ⟨e, he⟩ => (V.1 q e he).1) (fun h => C.2.2.2.2.2.2.2.2.1 q (Nat.le_trans V.2.1 h))
  obtain ⟨m1, m2, m3, m4, m5, m6⟩ := M
  have hts := C.2.2.2.2.1
  obtain ⟨cellB, hcB, hoB, hclB⟩ := gh_recv C V he hc
  have hy : y.cls ≠ "java/lang/invoke/MethodHandle" ∧ y.cls ≠ "java/lang/invoke/VarHandle" := ⟨m5.1, m5.2.1⟩
  intro T hT X
  have hcc : decode c.code pc = .ok (.invokevirtual index, 3) := by rw [C.2.1]; exact hdg
  obtain ⟨mk, methM, hnamed, hmethM, hstM, habM⟩ := Cond.instanceMethod_spec (hts _ m2)
  obtain ⟨methM', cM, hmethM', -, -, -, -, -, -, hsigM⟩ := Cond.code_spec hnamed (hts _ m1)
  cases hmethM.symm.trans hmethM'
  obtain ⟨c2, r2, m2', q1, q2, q3, q4, kP, hkP, hkPi⟩ := Cond.selects_spec (hts _ m3)
  cases hclB.symm.trans q1
  cases (State.methodFound?_of_named hnamed hy).symm.trans q2
  cases hnamed.symm.trans q3
  have hselP : selectMethod e.platform s.vm cellB.cls mk = .method mk := by rw [Launch.admits_selectMethod X.admits]; exact q4
  have hlen : As.length = methM.sig.parameters.length := by
    have h2 := m5.2.2
    rw [hsigM] at h2
    exact hk.trans (Option.some.inj h2).symm
  obtain ⟨vm₁, X₁, hstep₁⟩ := X.invokevirtual C.1 C.2.2.2.1 (hts _ hlink) hnamed hmethM hstM hkP hkPi hy (a := a) (cell := cellB) (by rw [hT]; exact hcB)
    (fun z h => by rw [h] at hoB; cases hoB) hselP hmethM habM hkP hkPi (g := F0 m pc ls st0) rfl (argsL := As) (rest := rest) hlen hs0 hcc
  have hh : At (T.setVm vm₁) m c below := X₁.here
  have hsz : (F0 m pc ls rest).locals.size = c.maxLocals := by rw [C.2.2.1]; exact hls
  have hn' : (T.setVm vm₁).methodNamed? y = some mk := X₁.named hnamed
  have hall : ∀ w ∈ Cond.code y b n ret :: g_tbl, w.before (Value.ref a :: As).toArray (T.setVm vm₁) = true := fun w hw => pay_in hts (gh_good (fun w hw => (List.mem_cons.mp hw).elim (fun h => h ▸ m1) id)) w hw _ _ X₁.warmed
  obtain ⟨methY, cY, hmY, hcY, -, hlY, -, -, -, -⟩ := Cond.code_spec hn' (hall _ List.mem_cons_self)
  obtain ⟨kY, hkY, -⟩ := className_of_methodNamed hn'
  have hinitY : kY.init = .initialized := Cond.initialized_spec (findClass_of_methodNamed hn') hkY (hall _ (List.mem_cons_of_mem _ m4))
  have happ : (headSpec (Cond.code y b n ret :: g_tbl) rm).appliesLoose y e.platform ((T.setVm vm₁).calling (F0 m pc ls rest) mk (Value.ref a :: As).toArray) = true :=
    Spec.appliesLoose_calling (g := F0 m pc ls rest) hh hcc hn' hkY hinitY
      (X₁.room_calling (g := F0 m pc ls rest) (R' := rm) hsz hmY hcY hR.1 (by
        rw [hlY]
        have h9 : 2 * (F0 m pc ls rest).monitorRoom + ((F0 m pc ls rest).stack.map fun v => v.category).sum ≤ 8 := lv_room hst
        omega) hf.1 hf.2) (atoms_intro hall)
  obtain ⟨mid, hmid⟩ := hh.above
  have hfr : ((T.setVm vm₁).setTop (F0 m pc ls rest)).frames = (.java (F0 m pc ls rest) :: mid) ++ below := by rw [State.frames_setTop' _ hh.top, hmid]; rfl
  have hpre : va_Pc (.ref a :: As) (fun U => U.heap.size = H.size ∧ gh_W E f U) (Value.ref a :: As).toArray ((T.setVm vm₁).calling (F0 m pc ls rest) mk (Value.ref a :: As).toArray) :=
    gh_blind E f H.size _ _ (T.setVm vm₁) _ _ ⟨rfl, by show T.heap.size = _; rw [hT], gh_pre C.2.2.2.2.2.2.2.2.2 C.2.2.2.2.2.1 C.2.2.2.2.2.2.1 C.2.2.2.2.2.2.2.1 V (T.setVm vm₁) hT X₁.warmed⟩
  obtain ⟨o, s₂, hsteps, hrun, hend, ⟨f', hor, hW', hd, hz, hkp⟩, L, ⟨hWm, hsame⟩, hL⟩ := Steps.callFree hM p X.admits X.cas X.clock (acts := []) hfr happ hpre trivial
  have hsz0 : (((T.setVm vm₁).setTop (F0 m pc ls rest)).pushFrame (.invoking mk (Value.ref a :: As).toArray)).heap = H := hT
  rw [hsz0] at hd hz hkp
  rw [State.frames_setTop' _ hh.top, X₁.tail] at hend
  have mkV : ∀ T' : State, T'.heap = s₂.heap → gh_V E A f' s T'.heap (locs ++ L) := fun T' hT' => ⟨by rw [hT']; exact hW'.1.into (fun a e ha _ => hFA a (hd a e ha)), by rw [hT']; exact Nat.le_trans V.2.1 hz, fun q h1 h2 => by rw [hT', hkp q (Nat.lt_of_lt_of_le h1 V.2.1) (fun z => h2 (hFA q z))]; exact V.2.2.1 q h1 h2, fun q hq => (List.mem_append.mp hq).elim (V.2.2.2 q) (fun h => hFA _ (hL q h))⟩
  rcases hor with ⟨r, rfl, hp⟩ | ⟨x, cls, rfl, hex, hx⟩
  · obtain ⟨T', X', -, -, ht⟩ := X₁.outOf (g := F0 m pc ls rest) rfl hcc hend hWm hsame
    have hT' : T'.heap = s₂.heap := by rw [ht]; rfl
    obtain ⟨t, a1, b1⟩ := kr r f' T'.heap (locs ++ L) hp (mkV T' hT') T' rfl X'
    refine ⟨t, hstep₁ _ (fun acts => ?_), b1⟩
    rw [doInvoke_state]
    exact hsteps.trans (by rw [ht]; exact a1)
  · obtain ⟨T', X', -, -, ht⟩ := X₁.outOfThrown (g := F0 m pc ls rest) rfl hend hWm hsame
    have hT' : T'.heap = s₂.heap := by rw [ht, Stand.throwing_heap]
    have hv' : T'.vm = s₂.vm := by rw [ht, Stand.throwing_vm]
    obtain ⟨cell, kk, g1, g2, g3, g4⟩ := hx
    obtain ⟨t, a1, b1⟩ := kt x cls f' T' (locs ++ L) hex ⟨cell, kk, by rw [hT']; exact g1, g2, by rw [hv']; exact g3, by rw [hv']; exact g4⟩ (mkV T' hT') X'
    refine ⟨t, hstep₁ _ (fun acts => ?_), b1⟩
    rw [doInvoke_state]
    exact hsteps.trans (by rw [ht]; exact a1)
end GT2
