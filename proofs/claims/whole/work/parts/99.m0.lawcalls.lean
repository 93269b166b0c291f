/-! Contracts of methods with a table of handlers; the law's helpers. Printed by wip/whole/gen_law1.py. -/
abbrev R_La : String := "QueryMachineLaw"
def gc_ms (y : MethodName) (b : ByteArray) (n : Nat) (ret : Option FieldType) (tab : List (Nat × Nat × Nat × Nat)) (k : Nat) : Prop := Cond.codeWith y b n ret tab ∈ g_tbl ∧ Cond.static y ∈ g_tbl ∧ Cond.initialized y.cls ∈ g_tbl ∧ (y.cls ≠ "java/lang/invoke/MethodHandle" ∧ y.cls ≠ "java/lang/invoke/VarHandle" ∧ (parseMethodDescriptor y.desc).map (fun d => d.parameters.length) = some k) ∧ plainName y.cls = true
abbrev gc_M (l : Launch) (y : MethodName) (b : ByteArray) (n : Nat) (ret : Option FieldType) (tab : List (Nat × Nat × Nat × Nat)) (E : gh_E) (sz : Nat) (av : List Value) (f : gh_F) (rm : Room) (post : Option Value → gh_F → Prop) : Prop :=
  MetFree l y (headSpec (Cond.codeWith y b n ret tab :: g_tbl) rm) (va_Pc av (fun U => U.heap.size = sz ∧ gh_W E f U)) (fun _ _ _ _ _ => True) (fun a st o t => gh_Q E f post a st o t ∧ ∃ L, gt_End st t L rm.cells rm.slots ∧ ∀ q ∈ L, gh_Fr f sz q.base)
theorem gc_open {l : Launch} {y : MethodName} {b : ByteArray} {n : Nat} {ret : Option FieldType} {tab : List (Nat × Nat × Nat × Nat)} {E : gh_E} {sz : Nat} {av : List Value} {f : gh_F} {rm : Room} {post : Option Value → gh_F → Prop} (hy : plainName y.cls = true) (hn : (lg_sl av).length ≤ n)
    (body : ∀ (p : Program) (e : Env) (s : State) (m : MethodId) (args : Array Value) (below : List Frame) (meth : Method) (c : Code) (A : Nat → Prop) (ls : Array Slot), c.exceptionTable.toList = tableOf tab → A = gh_Fr f s.heap.size → gh_C E A p s m args c b y.cls n → gh_V E A f s s.heap [] → meth.sig.returnType = ret → meth.locks = false → meth.name = y.name → lv_has ls n (lv_args 0 av) →
      W p l e rm s m args below meth c s.heap [] 0 0 (MQ below (gh_Q E f post) args s rm.cells rm.slots A) (F0 m 0 ls [])) : gc_M l y b n ret tab E sz av f rm post := by
  refine MetFree.of_bodyS (code := b) (maxLocals := n) (ret := ret) hy ?_ ?_
  · intro args s m h hn
    obtain ⟨m', meth, c, h0, h1, h2, h3, h4, -, h5, h6, -⟩ := Cond.codeWith_spec (atoms_spec (ws := Cond.codeWith y b n ret tab :: g_tbl) h _ List.mem_cons_self)
    cases hn.symm.trans h0
    exact ⟨meth, c, h1, h2, h3, h4, h5, h6⟩
  · intro p e s m args below meth c s₁ B hml hv _
    have hh0 : s₁.heap = s.heap := by rw [B.state]; rfl
    obtain ⟨rfl, rfl, hH, hK, hb, hZ⟩ := hv
    have hts := atoms_spec (ws := Cond.codeWith y b n ret tab :: g_tbl) B.pre
    have htab : c.exceptionTable.toList = tableOf tab := by
      obtain ⟨m', meth', c', h0, h1, h2, -, -, h4, -⟩ := Cond.codeWith_spec (hts _ List.mem_cons_self)
      cases B.named.symm.trans h0
      cases B.method.symm.trans h1
      cases (Stand.of_body B).code.symm.trans h2
      rw [← h4, table_eq]
    have hW := body p e s m av.toArray below meth c _ _ htab rfl ⟨B.exec, B.bytes, hml, findClass_of_methodNamed B.named, fun w hw => hts w (List.mem_cons_of_mem _ hw), hK, hb, hZ, fun q h => Or.inr h, fun q h => h.elim (fun ⟨e, he⟩ => (hH q e he).1) (fun h => Nat.le_trans hb h)⟩ ⟨hH.into (fun a e ha _ => Or.inl ⟨e, ha⟩), va_S.rf⟩ B.returns B.notSynchronized (name_of_methodNamed B.named B.method).1 (lv_entry av hn)
    rw [← lg_entry_eq] at hW
    obtain ⟨t, a1, o, b1, b2, b3, L, ⟨-, hw, hsame⟩, hL⟩ := hW s₁ hh0 (Stand.of_body B)
    exact ⟨t, o, a1, b1, b2, ⟨b3, L, ⟨hw, hsame⟩, hL⟩⟩
section GC
variable {p : Program} {l : Launch} {e : Env} {R : Room} {s : State} {m : MethodId} {args : Array Value} {below : List Frame} {meth : Method} {c : Code} {H : Heap} {locs : List Loc} {cells slots : Nat} {Q : State → Prop}
variable {cc : ByteArray} {pc : Nat} {ls : Array Slot} {rest : List Value} {E : gh_E} {A : Nat → Prop} {f fe : gh_F} {own : String} {nL : Nat}
theorem gc_Y (C : gh_C E A p s m args c cc own nL) : gh_Y E s := C.2.2.2.2.2.2.2.1.2.2.2.2.2.2.2.2.2
theorem gc_callS (C : gh_C E A p s m args c cc own nL) (V : gh_V E A f s H locs) (hls : ls.size = nL) {y : MethodName} {b : ByteArray} {n k : Nat} {ret : Option FieldType} {tab : List (Nat × Nat × Nat × Nat)} (M : gc_ms y b n ret tab k) {index : Nat} (hlink : Cond.methodLink own index y ∈ g_tbl) {rm : Room} {post : Option Value → gh_F → Prop} {As : List Value} (hM : gc_M l y b n ret tab E H.size As f rm post) (hk : As.length = k)
    (hR : rm.frames + 1 ≤ R.frames ∧ 8 + (n + 11) + rm.locals ≤ R.locals) (hf : cells + rm.cells ≤ R.cells ∧ slots + rm.slots ≤ R.slots) (hst : (rest.map fun v => v.category).sum ≤ 8) {st0 : List Value} (hs0 : st0 = As.reverse ++ rest) (hdg : decode cc pc = .ok (.invokestatic index, 3))
    (kr : ∀ (r : Option Value) (f' : gh_F) (H1 : Heap) (locs1 : List Loc), post r f' → gh_V E A f' s H1 locs1 → W p l e R s m args below meth c H1 locs1 (cells + rm.cells) (slots + rm.slots) Q (F0 m (pc + 3) ls (r.toList ++ rest))) :
    W p l e R s m args below meth c H locs cells slots Q (F0 m pc ls st0) := by
  have hFA : ∀ q, gh_Fr f H.size q → A q := fun q h => h.elim (fun ⟨e, he⟩ => (V.1 q e he).1) (fun h => C.2.2.2.2.2.2.2.2.1 q (Nat.le_trans V.2.1 h))
  obtain ⟨m1, m2, m4, m5, m6⟩ := M
  have hts := C.2.2.2.2.1
  have hy : y.cls ≠ "java/lang/invoke/MethodHandle" ∧ y.cls ≠ "java/lang/invoke/VarHandle" := ⟨m5.1, m5.2.1⟩
  intro T hT X
  have hcc : decode c.code pc = .ok (.invokestatic index, 3) := by rw [C.2.1]; exact hdg
  obtain ⟨mk, methM, cM, hnamed, hmethM, -, -, -, -, -, -, hsigM⟩ := Cond.codeWith_spec (hts _ m1)
  have hstatic : methM.isStatic = true := Cond.static_spec hnamed hmethM (hts _ m2)
  obtain ⟨kP, hkP, -⟩ := className_of_methodNamed hnamed
  have hinitP : kP.init = .initialized := Cond.initialized_spec (findClass_of_methodNamed hnamed) hkP (hts _ m4)
  have hlen : As.length = methM.sig.parameters.length := by
    have h2 := m5.2.2
    rw [hsigM] at h2
    exact hk.trans (Option.some.inj h2).symm
  obtain ⟨vm₁, X₁, hstep₁⟩ := X.invokestatic C.1 C.2.2.2.1 (hts _ hlink) hnamed hmethM hstatic hkP hinitP hy (g := F0 m pc ls st0) rfl (argsL := As) (rest := rest) hlen hs0 hcc
  have hh : At (T.setVm vm₁) m c below := X₁.here
  have hsz : (F0 m pc ls rest).locals.size = c.maxLocals := by rw [C.2.2.1]; exact hls
  have hn' : (T.setVm vm₁).methodNamed? y = some mk := X₁.named hnamed
  have hall : ∀ w ∈ Cond.codeWith y b n ret tab :: g_tbl, w.before As.toArray (T.setVm vm₁) = true := fun w hw => pay_in hts (gh_good (fun w hw => (List.mem_cons.mp hw).elim (fun h => h ▸ m1) id)) w hw _ _ X₁.warmed
  obtain ⟨mk2, methY, cY, hn2, hmY, hcY, -, hlY, -⟩ := Cond.codeWith_spec (hall _ List.mem_cons_self)
  cases hn'.symm.trans hn2
  obtain ⟨kY, hkY, -⟩ := className_of_methodNamed hn'
  have hinitY : kY.init = .initialized := Cond.initialized_spec (findClass_of_methodNamed hn') hkY (hall _ (List.mem_cons_of_mem _ m4))
  have happ : (headSpec (Cond.codeWith y b n ret tab :: g_tbl) rm).appliesLoose y e.platform ((T.setVm vm₁).calling (F0 m pc ls rest) mk As.toArray) = true :=
    Spec.appliesLoose_calling (g := F0 m pc ls rest) hh hcc hn' hkY hinitY
      (X₁.room_calling (g := F0 m pc ls rest) (R' := rm) hsz hmY hcY hR.1 (by
        rw [hlY]
        have h9 : 2 * (F0 m pc ls rest).monitorRoom + ((F0 m pc ls rest).stack.map fun v => v.category).sum ≤ 8 := lv_room hst
        omega) hf.1 hf.2) (atoms_intro hall)
  obtain ⟨mid, hmid⟩ := hh.above
  have hfr : ((T.setVm vm₁).setTop (F0 m pc ls rest)).frames = (.java (F0 m pc ls rest) :: mid) ++ below := by rw [State.frames_setTop' _ hh.top, hmid]; rfl
  have hpre : va_Pc As (fun U => U.heap.size = H.size ∧ gh_W E f U) As.toArray ((T.setVm vm₁).calling (F0 m pc ls rest) mk As.toArray) :=
    gh_blind E f H.size _ _ (T.setVm vm₁) _ _ ⟨rfl, by show T.heap.size = _; rw [hT], gh_pre C.2.2.2.2.2.2.2.2.2 C.2.2.2.2.2.1 C.2.2.2.2.2.2.1 C.2.2.2.2.2.2.2.1 V (T.setVm vm₁) hT X₁.warmed⟩
  obtain ⟨o, s₂, hsteps, hrun, hend, ⟨r, f', rfl, hp, hW', hd, hz, hkp⟩, L, ⟨hWm, hsame⟩, hL⟩ := Steps.callFree hM p X.admits X.cas X.clock (acts := []) hfr happ hpre trivial
  have hsz0 : (((T.setVm vm₁).setTop (F0 m pc ls rest)).pushFrame (.invoking mk As.toArray)).heap = H := hT
  rw [hsz0] at hd hz hkp
  rw [State.frames_setTop' _ hh.top, X₁.tail] at hend
  have mkV : ∀ T' : State, T'.heap = s₂.heap → gh_V E A f' s T'.heap (locs ++ L) := fun T' hT' => ⟨by rw [hT']; exact hW'.1.into (fun a e ha _ => hFA a (hd a e ha)), by rw [hT']; exact Nat.le_trans V.2.1 hz, fun q h1 h2 => by rw [hT', hkp q (Nat.lt_of_lt_of_le h1 V.2.1) (fun z => h2 (hFA q z))]; exact V.2.2.1 q h1 h2, fun q hq => (List.mem_append.mp hq).elim (V.2.2.2 q) (fun h => hFA _ (hL q h))⟩
  obtain ⟨T', X', -, -, ht⟩ := X₁.outOf (g := F0 m pc ls rest) rfl hcc hend hWm hsame
  have hT' : T'.heap = s₂.heap := by rw [ht]; rfl
  obtain ⟨t, a1, b1⟩ := kr r f' T'.heap (locs ++ L) hp (mkV T' hT') T' rfl X'
  refine ⟨t, hstep₁ _ (fun acts => ?_), b1⟩
  rw [doInvoke_state]
  exact hsteps.trans (by rw [ht]; exact a1)
end GC
theorem m_La_text : gc_ms y_La_text b_La_text 5 (some .int) [(0, 6, 9, 13), (0, 6, 13, 15)] 3 := ⟨g_in 344 (by decide +kernel) (by decide +kernel), g_in 343 (by decide +kernel) (by decide +kernel), i_La, ⟨by decide +kernel, by decide +kernel, by decide +kernel⟩, by decide +kernel⟩
theorem m_La_document : gc_ms y_La_document b_La_document 2 (some .int) [(0, 4, 7, 13)] 1 := ⟨g_in 441 (by decide +kernel) (by decide +kernel), g_in 440 (by decide +kernel) (by decide +kernel), i_La, ⟨by decide +kernel, by decide +kernel, by decide +kernel⟩, by decide +kernel⟩
theorem m_La_bytes : gc_ms y_La_bytes b_La_bytes 5 (some .int) [(0, 6, 9, 13), (0, 6, 13, 15)] 3 := ⟨g_in 601 (by decide +kernel) (by decide +kernel), g_in 600 (by decide +kernel) (by decide +kernel), i_La, ⟨by decide +kernel, by decide +kernel, by decide +kernel⟩, by decide +kernel⟩
theorem m_La_query : gc_ms y_La_query b_La_query 2 (some .int) [(0, 4, 7, 13)] 1 := ⟨g_in 608 (by decide +kernel) (by decide +kernel), g_in 607 (by decide +kernel) (by decide +kernel), i_La, ⟨by decide +kernel, by decide +kernel, by decide +kernel⟩, by decide +kernel⟩
theorem m_La_run : gc_ms y_La_run b_La_run 4 (some .int) [(0, 9, 12, 13)] 3 := ⟨g_in 619 (by decide +kernel) (by decide +kernel), g_in 618 (by decide +kernel) (by decide +kernel), i_La, ⟨by decide +kernel, by decide +kernel, by decide +kernel⟩, by decide +kernel⟩
theorem m_La_kind : gc_ms y_La_kind b_La_kind 4 (some .int) [(0, 9, 12, 33)] 3 := ⟨g_in 841 (by decide +kernel) (by decide +kernel), g_in 840 (by decide +kernel) (by decide +kernel), i_La, ⟨by decide +kernel, by decide +kernel, by decide +kernel⟩, by decide +kernel⟩
theorem m_La_written : gc_ms y_La_written b_La_written 5 (some .int) [(0, 10, 13, 33), (0, 10, 17, 39)] 4 := ⟨g_in 876 (by decide +kernel) (by decide +kernel), g_in 875 (by decide +kernel) (by decide +kernel), i_La, ⟨by decide +kernel, by decide +kernel, by decide +kernel⟩, by decide +kernel⟩
theorem m_La_integer : gc_ms y_La_integer b_La_integer 4 (some .int) [(0, 8, 11, 33), (0, 8, 14, 15)] 3 := ⟨g_in 936 (by decide +kernel) (by decide +kernel), g_in 935 (by decide +kernel) (by decide +kernel), i_La, ⟨by decide +kernel, by decide +kernel, by decide +kernel⟩, by decide +kernel⟩
theorem m_La_adopt : gc_ms y_La_adopt b_La_adopt 3 (some .int) [(0, 5, 8, 33)] 2 := ⟨g_in 943 (by decide +kernel) (by decide +kernel), g_in 942 (by decide +kernel) (by decide +kernel), i_La, ⟨by decide +kernel, by decide +kernel, by decide +kernel⟩, by decide +kernel⟩
theorem d_La_text_0 : decode b_La_text 0 = .ok (.aload_n 0, 1) := by decide +kernel
theorem d_La_text_1 : decode b_La_text 1 = .ok (.lload_n 1, 1) := by decide +kernel
theorem d_La_text_2 : decode b_La_text 2 = .ok (.iload_n 3, 1) := by decide +kernel
theorem d_La_text_3 : decode b_La_text 3 = .ok (.invokevirtual 7, 3) := by decide +kernel
theorem d_La_text_6 : decode b_La_text 6 = .ok (.goto 11, 3) := by decide +kernel
theorem d_La_text_9 : decode b_La_text 9 = .ok (.astore 4, 2) := by decide +kernel
theorem d_La_text_11 : decode b_La_text 11 = .ok (.iconst 1, 1) := by decide +kernel
theorem d_La_text_12 : decode b_La_text 12 = .ok (.ireturn, 1) := by decide +kernel
theorem d_La_text_13 : decode b_La_text 13 = .ok (.astore 4, 2) := by decide +kernel
theorem d_La_text_15 : decode b_La_text 15 = .ok (.iconst 2, 1) := by decide +kernel
theorem d_La_text_16 : decode b_La_text 16 = .ok (.ireturn, 1) := by decide +kernel
theorem d_La_text_17 : decode b_La_text 17 = .ok (.iconst 0, 1) := by decide +kernel
theorem d_La_text_18 : decode b_La_text 18 = .ok (.ireturn, 1) := by decide +kernel
set_option maxHeartbeats 4000000 in
set_option maxRecDepth 100000 in
theorem c_La_text (l : Launch) (E : gh_E) (sz : Nat) (f : gh_F) (xa : Nat) (p0 : Int64) (p1 : Int32) (fs : List Value) (hxa : f xa = some (.inr (0, fs))) (post : Option Value → gh_F → Prop) (ex : String → gh_F → Prop) (hM : ∀ sz, gt_M l y_QM_text b_QM_text 5 none E sz [.ref xa, .long p0, .int p1] f { frames := 10, cells := 1, slots := 6, locals := 160 } post ex) (hex : ∀ cls g, ex cls g → cls = X_IA ∨ cls = X_IS) (hri : ∀ r g, post r g → r = none) : gc_M l y_La_text b_La_text 5 (some .int) [(0, 6, 9, 13), (0, 6, 13, 15)] E sz [.ref xa, .long p0, .int p1] f { frames := 12, cells := 1, slots := 6, locals := 200 } (fun r g => (r = some (.int 0) ∧ post none g) ∨ (r = some (.int 1) ∧ ex X_IA g) ∨ (r = some (.int 2) ∧ ex X_IS g)) := by
  refine gc_open (by decide) (Nat.le_of_ble_eq_true rfl) ?_
  intro p e s m args below meth c A ls htab hAe C V hr hlocks hname hl
  have hx := C.1
  have hb := C.2.1
  have htab : c.exceptionTable.toList = [⟨0, 6, 9, 13⟩, ⟨0, 6, 13, 15⟩] := htab
  have hl : lv_has ls 5 [(0, .ref xa), (1, .long p0), (3, .int p1)] := hl
  refine lv_aload_n hx hb d_La_text_0 rfl (lv_at hl 0 rfl) ?_
  refine lv_lload_n hx hb d_La_text_1 rfl (lv_at hl 1 rfl) ?_
  refine lv_iload_n hx hb d_La_text_2 rfl (lv_at hl 2 rfl) ?_
  refine gt_callV C V hl.1 m_QM_text l_La_7 (hM _) rfl hxa gc_QM ⟨by first | decide | omega | (dsimp only; omega), by first | decide | omega | (dsimp only; omega)⟩ ⟨by first | decide | omega | (dsimp only; omega), by first | decide | omega | (dsimp only; omega)⟩ (Nat.le_of_ble_eq_true rfl) rfl d_La_text_3 (fun r g9 H locs hp9 V1 => ?_) (fun x9 cls9 g8 T9 locs9 hex9 hx9 V9 X9 => ?_)
  · have V := V1
    have hn9 := hri r g9 hp9
    rw [hn9] at hp9
    rw [hn9]
    refine W.eq (g2 := F0 m 6 ls []) rfl ?_
    refine lv_goto (tgt := 17) hx hb d_La_text_6 (by decide) ?_
    refine lv_iconst (v := 0) hx hb d_La_text_17 (by decide) ?_
    refine gh_reti hAe C V hr hlocks d_La_text_18 (by first | decide | omega | (dsimp only; omega)) (by first | decide | omega | (dsimp only; omega)) ?_
    exact Or.inl ⟨rfl, hp9⟩
  · have V := V9
    rcases hex cls9 g8 hex9 with hc9 | hc9
    · rw [hc9] at hex9 hx9
      refine gt_caught1 X9 hx9 htab C.2.2.2.1 (C.2.2.2.2.1 _ k_La_13) (C.2.2.2.2.1 _ gx_IA_n) (by decide) (by decide) (gc_Y C).2.2.1.1 ?_
      refine W.eq (g2 := F0 m 9 ls [.ref x9]) rfl ?_
      refine lv_astore hx hb d_La_text_9 hl (by decide) rfl (fun ls hl => ?_)
      have hl : lv_has ls 5 [(4, .ref x9), (0, .ref xa), (1, .long p0), (3, .int p1)] := hl
      refine lv_iconst (v := 1) hx hb d_La_text_11 (by decide) ?_
      refine gh_reti hAe C V hr hlocks d_La_text_12 (by first | decide | omega | (dsimp only; omega)) (by first | decide | omega | (dsimp only; omega)) ?_
      exact Or.inr (Or.inl ⟨rfl, hex9⟩)
    · rw [hc9] at hex9 hx9
      refine gt_caught2 X9 hx9 htab C.2.2.2.1 (C.2.2.2.2.1 _ k_La_13) (C.2.2.2.2.1 _ k_La_15) (C.2.2.2.2.1 _ gx_IA_n) (C.2.2.2.2.1 _ gx_IS_n) (by decide) (by decide) (by decide) (by decide) (gc_Y C).2.2.2.2.1.1 (gc_Y C).2.2.1.2.1 ?_
      refine W.eq (g2 := F0 m 13 ls [.ref x9]) rfl ?_
      refine lv_astore hx hb d_La_text_13 hl (by decide) rfl (fun ls hl => ?_)
      have hl : lv_has ls 5 [(4, .ref x9), (0, .ref xa), (1, .long p0), (3, .int p1)] := hl
      refine lv_iconst (v := 2) hx hb d_La_text_15 (by decide) ?_
      refine gh_reti hAe C V hr hlocks d_La_text_16 (by first | decide | omega | (dsimp only; omega)) (by first | decide | omega | (dsimp only; omega)) ?_
      exact Or.inr (Or.inr ⟨rfl, hex9⟩)
theorem d_La_document_0 : decode b_La_document 0 = .ok (.aload_n 0, 1) := by decide +kernel
theorem d_La_document_1 : decode b_La_document 1 = .ok (.invokevirtual 17, 3) := by decide +kernel
theorem d_La_document_4 : decode b_La_document 4 = .ok (.goto 6, 3) := by decide +kernel
theorem d_La_document_7 : decode b_La_document 7 = .ok (.astore_n 1, 1) := by decide +kernel
theorem d_La_document_8 : decode b_La_document 8 = .ok (.iconst 1, 1) := by decide +kernel
theorem d_La_document_9 : decode b_La_document 9 = .ok (.ireturn, 1) := by decide +kernel
theorem d_La_document_10 : decode b_La_document 10 = .ok (.iconst 0, 1) := by decide +kernel
theorem d_La_document_11 : decode b_La_document 11 = .ok (.ireturn, 1) := by decide +kernel
set_option maxHeartbeats 4000000 in
set_option maxRecDepth 100000 in
theorem c_La_document (l : Launch) (E : gh_E) (sz : Nat) (f : gh_F) (xa : Nat) (fs : List Value) (hxa : f xa = some (.inr (0, fs))) (post : Option Value → gh_F → Prop) (ex : String → gh_F → Prop) (hM : ∀ sz, gt_M l y_QM_document b_QM_document 2 none E sz [.ref xa] f { frames := 54, cells := 485, slots := 7266, locals := 1450 } post ex) (hex : ∀ cls g, ex cls g → cls = X_IA) (hri : ∀ r g, post r g → r = none) : gc_M l y_La_document b_La_document 2 (some .int) [(0, 4, 7, 13)] E sz [.ref xa] f { frames := 56, cells := 485, slots := 7266, locals := 1490 } (fun r g => (r = some (.int 0) ∧ post none g) ∨ (r = some (.int 1) ∧ ex X_IA g)) := by
  refine gc_open (by decide) (Nat.le_of_ble_eq_true rfl) ?_
  intro p e s m args below meth c A ls htab hAe C V hr hlocks hname hl
  have hx := C.1
  have hb := C.2.1
  have htab : c.exceptionTable.toList = [⟨0, 4, 7, 13⟩] := htab
  have hl : lv_has ls 2 [(0, .ref xa)] := hl
  refine lv_aload_n hx hb d_La_document_0 rfl (lv_at hl 0 rfl) ?_
  refine gt_callV C V hl.1 m_QM_document l_La_17 (hM _) rfl hxa gc_QM ⟨by first | decide | omega | (dsimp only; omega), by first | decide | omega | (dsimp only; omega)⟩ ⟨by first | decide | omega | (dsimp only; omega), by first | decide | omega | (dsimp only; omega)⟩ (Nat.le_of_ble_eq_true rfl) rfl d_La_document_1 (fun r g9 H locs hp9 V1 => ?_) (fun x9 cls9 g8 T9 locs9 hex9 hx9 V9 X9 => ?_)
  · have V := V1
    have hn9 := hri r g9 hp9
    rw [hn9] at hp9
    rw [hn9]
    refine W.eq (g2 := F0 m 4 ls []) rfl ?_
    refine lv_goto (tgt := 10) hx hb d_La_document_4 (by decide) ?_
    refine lv_iconst (v := 0) hx hb d_La_document_10 (by decide) ?_
    refine gh_reti hAe C V hr hlocks d_La_document_11 (by first | decide | omega | (dsimp only; omega)) (by first | decide | omega | (dsimp only; omega)) ?_
    exact Or.inl ⟨rfl, hp9⟩
  · have V := V9
    have hc9 := hex cls9 g8 hex9
    rw [hc9] at hex9 hx9
    refine gt_caught1 X9 hx9 htab C.2.2.2.1 (C.2.2.2.2.1 _ k_La_13) (C.2.2.2.2.1 _ gx_IA_n) (by decide) (by decide) (gc_Y C).2.2.1.1 ?_
    refine W.eq (g2 := F0 m 7 ls [.ref x9]) rfl ?_
    refine lv_astore_n hx hb d_La_document_7 rfl hl (by decide) rfl (fun ls hl => ?_)
    have hl : lv_has ls 2 [(1, .ref x9), (0, .ref xa)] := hl
    refine lv_iconst (v := 1) hx hb d_La_document_8 (by decide) ?_
    refine gh_reti hAe C V hr hlocks d_La_document_9 (by first | decide | omega | (dsimp only; omega)) (by first | decide | omega | (dsimp only; omega)) ?_
    exact Or.inr ⟨rfl, hex9⟩
theorem d_La_bytes_0 : decode b_La_bytes 0 = .ok (.aload_n 0, 1) := by decide +kernel
theorem d_La_bytes_1 : decode b_La_bytes 1 = .ok (.lload_n 1, 1) := by decide +kernel
theorem d_La_bytes_2 : decode b_La_bytes 2 = .ok (.iload_n 3, 1) := by decide +kernel
theorem d_La_bytes_3 : decode b_La_bytes 3 = .ok (.invokevirtual 20, 3) := by decide +kernel
theorem d_La_bytes_6 : decode b_La_bytes 6 = .ok (.goto 11, 3) := by decide +kernel
theorem d_La_bytes_9 : decode b_La_bytes 9 = .ok (.astore 4, 2) := by decide +kernel
theorem d_La_bytes_11 : decode b_La_bytes 11 = .ok (.iconst 1, 1) := by decide +kernel
theorem d_La_bytes_12 : decode b_La_bytes 12 = .ok (.ireturn, 1) := by decide +kernel
theorem d_La_bytes_13 : decode b_La_bytes 13 = .ok (.astore 4, 2) := by decide +kernel
theorem d_La_bytes_15 : decode b_La_bytes 15 = .ok (.iconst 2, 1) := by decide +kernel
theorem d_La_bytes_16 : decode b_La_bytes 16 = .ok (.ireturn, 1) := by decide +kernel
theorem d_La_bytes_17 : decode b_La_bytes 17 = .ok (.iconst 0, 1) := by decide +kernel
theorem d_La_bytes_18 : decode b_La_bytes 18 = .ok (.ireturn, 1) := by decide +kernel
set_option maxHeartbeats 4000000 in
set_option maxRecDepth 100000 in
theorem c_La_bytes (l : Launch) (E : gh_E) (sz : Nat) (f : gh_F) (xa : Nat) (p0 : Int64) (p1 : Int32) (fs : List Value) (hxa : f xa = some (.inr (0, fs))) (post : Option Value → gh_F → Prop) (ex : String → gh_F → Prop) (hM : ∀ sz, gt_M l y_QM_bytes b_QM_bytes 5 none E sz [.ref xa, .long p0, .int p1] f { frames := 10, cells := 1, slots := 6, locals := 160 } post ex) (hex : ∀ cls g, ex cls g → cls = X_IA ∨ cls = X_IS) (hri : ∀ r g, post r g → r = none) : gc_M l y_La_bytes b_La_bytes 5 (some .int) [(0, 6, 9, 13), (0, 6, 13, 15)] E sz [.ref xa, .long p0, .int p1] f { frames := 12, cells := 1, slots := 6, locals := 200 } (fun r g => (r = some (.int 0) ∧ post none g) ∨ (r = some (.int 1) ∧ ex X_IA g) ∨ (r = some (.int 2) ∧ ex X_IS g)) := by
  refine gc_open (by decide) (Nat.le_of_ble_eq_true rfl) ?_
  intro p e s m args below meth c A ls htab hAe C V hr hlocks hname hl
  have hx := C.1
  have hb := C.2.1
  have htab : c.exceptionTable.toList = [⟨0, 6, 9, 13⟩, ⟨0, 6, 13, 15⟩] := htab
  have hl : lv_has ls 5 [(0, .ref xa), (1, .long p0), (3, .int p1)] := hl
  refine lv_aload_n hx hb d_La_bytes_0 rfl (lv_at hl 0 rfl) ?_
  refine lv_lload_n hx hb d_La_bytes_1 rfl (lv_at hl 1 rfl) ?_
  refine lv_iload_n hx hb d_La_bytes_2 rfl (lv_at hl 2 rfl) ?_
  refine gt_callV C V hl.1 m_QM_bytes l_La_20 (hM _) rfl hxa gc_QM ⟨by first | decide | omega | (dsimp only; omega), by first | decide | omega | (dsimp only; omega)⟩ ⟨by first | decide | omega | (dsimp only; omega), by first | decide | omega | (dsimp only; omega)⟩ (Nat.le_of_ble_eq_true rfl) rfl d_La_bytes_3 (fun r g9 H locs hp9 V1 => ?_) (fun x9 cls9 g8 T9 locs9 hex9 hx9 V9 X9 => ?_)
  · have V := V1
    have hn9 := hri r g9 hp9
    rw [hn9] at hp9
    rw [hn9]
    refine W.eq (g2 := F0 m 6 ls []) rfl ?_
    refine lv_goto (tgt := 17) hx hb d_La_bytes_6 (by decide) ?_
    refine lv_iconst (v := 0) hx hb d_La_bytes_17 (by decide) ?_
    refine gh_reti hAe C V hr hlocks d_La_bytes_18 (by first | decide | omega | (dsimp only; omega)) (by first | decide | omega | (dsimp only; omega)) ?_
    exact Or.inl ⟨rfl, hp9⟩
  · have V := V9
    rcases hex cls9 g8 hex9 with hc9 | hc9
    · rw [hc9] at hex9 hx9
      refine gt_caught1 X9 hx9 htab C.2.2.2.1 (C.2.2.2.2.1 _ k_La_13) (C.2.2.2.2.1 _ gx_IA_n) (by decide) (by decide) (gc_Y C).2.2.1.1 ?_
      refine W.eq (g2 := F0 m 9 ls [.ref x9]) rfl ?_
      refine lv_astore hx hb d_La_bytes_9 hl (by decide) rfl (fun ls hl => ?_)
      have hl : lv_has ls 5 [(4, .ref x9), (0, .ref xa), (1, .long p0), (3, .int p1)] := hl
      refine lv_iconst (v := 1) hx hb d_La_bytes_11 (by decide) ?_
      refine gh_reti hAe C V hr hlocks d_La_bytes_12 (by first | decide | omega | (dsimp only; omega)) (by first | decide | omega | (dsimp only; omega)) ?_
      exact Or.inr (Or.inl ⟨rfl, hex9⟩)
    · rw [hc9] at hex9 hx9
      refine gt_caught2 X9 hx9 htab C.2.2.2.1 (C.2.2.2.2.1 _ k_La_13) (C.2.2.2.2.1 _ k_La_15) (C.2.2.2.2.1 _ gx_IA_n) (C.2.2.2.2.1 _ gx_IS_n) (by decide) (by decide) (by decide) (by decide) (gc_Y C).2.2.2.2.1.1 (gc_Y C).2.2.1.2.1 ?_
      refine W.eq (g2 := F0 m 13 ls [.ref x9]) rfl ?_
      refine lv_astore hx hb d_La_bytes_13 hl (by decide) rfl (fun ls hl => ?_)
      have hl : lv_has ls 5 [(4, .ref x9), (0, .ref xa), (1, .long p0), (3, .int p1)] := hl
      refine lv_iconst (v := 2) hx hb d_La_bytes_15 (by decide) ?_
      refine gh_reti hAe C V hr hlocks d_La_bytes_16 (by first | decide | omega | (dsimp only; omega)) (by first | decide | omega | (dsimp only; omega)) ?_
      exact Or.inr (Or.inr ⟨rfl, hex9⟩)
theorem d_La_query_0 : decode b_La_query 0 = .ok (.aload_n 0, 1) := by decide +kernel
theorem d_La_query_1 : decode b_La_query 1 = .ok (.invokevirtual 23, 3) := by decide +kernel
theorem d_La_query_4 : decode b_La_query 4 = .ok (.goto 6, 3) := by decide +kernel
theorem d_La_query_7 : decode b_La_query 7 = .ok (.astore_n 1, 1) := by decide +kernel
theorem d_La_query_8 : decode b_La_query 8 = .ok (.iconst 1, 1) := by decide +kernel
theorem d_La_query_9 : decode b_La_query 9 = .ok (.ireturn, 1) := by decide +kernel
theorem d_La_query_10 : decode b_La_query 10 = .ok (.iconst 0, 1) := by decide +kernel
theorem d_La_query_11 : decode b_La_query 11 = .ok (.ireturn, 1) := by decide +kernel
set_option maxHeartbeats 4000000 in
set_option maxRecDepth 100000 in
theorem c_La_query (l : Launch) (E : gh_E) (sz : Nat) (f : gh_F) (xa : Nat) (fs : List Value) (hxa : f xa = some (.inr (0, fs))) (post : Option Value → gh_F → Prop) (ex : String → gh_F → Prop) (hM : ∀ sz, gt_M l y_QM_query b_QM_query 3 none E sz [.ref xa] f { frames := 24, cells := 1, slots := 6, locals := 560 } post ex) (hex : ∀ cls g, ex cls g → cls = X_IA) (hri : ∀ r g, post r g → r = none) : gc_M l y_La_query b_La_query 2 (some .int) [(0, 4, 7, 13)] E sz [.ref xa] f { frames := 26, cells := 1, slots := 6, locals := 600 } (fun r g => (r = some (.int 0) ∧ post none g) ∨ (r = some (.int 1) ∧ ex X_IA g)) := by
  refine gc_open (by decide) (Nat.le_of_ble_eq_true rfl) ?_
  intro p e s m args below meth c A ls htab hAe C V hr hlocks hname hl
  have hx := C.1
  have hb := C.2.1
  have htab : c.exceptionTable.toList = [⟨0, 4, 7, 13⟩] := htab
  have hl : lv_has ls 2 [(0, .ref xa)] := hl
  refine lv_aload_n hx hb d_La_query_0 rfl (lv_at hl 0 rfl) ?_
  refine gt_callV C V hl.1 m_QM_query l_La_23 (hM _) rfl hxa gc_QM ⟨by first | decide | omega | (dsimp only; omega), by first | decide | omega | (dsimp only; omega)⟩ ⟨by first | decide | omega | (dsimp only; omega), by first | decide | omega | (dsimp only; omega)⟩ (Nat.le_of_ble_eq_true rfl) rfl d_La_query_1 (fun r g9 H locs hp9 V1 => ?_) (fun x9 cls9 g8 T9 locs9 hex9 hx9 V9 X9 => ?_)
  · have V := V1
    have hn9 := hri r g9 hp9
    rw [hn9] at hp9
    rw [hn9]
    refine W.eq (g2 := F0 m 4 ls []) rfl ?_
    refine lv_goto (tgt := 10) hx hb d_La_query_4 (by decide) ?_
    refine lv_iconst (v := 0) hx hb d_La_query_10 (by decide) ?_
    refine gh_reti hAe C V hr hlocks d_La_query_11 (by first | decide | omega | (dsimp only; omega)) (by first | decide | omega | (dsimp only; omega)) ?_
    exact Or.inl ⟨rfl, hp9⟩
  · have V := V9
    have hc9 := hex cls9 g8 hex9
    rw [hc9] at hex9 hx9
    refine gt_caught1 X9 hx9 htab C.2.2.2.1 (C.2.2.2.2.1 _ k_La_13) (C.2.2.2.2.1 _ gx_IA_n) (by decide) (by decide) (gc_Y C).2.2.1.1 ?_
    refine W.eq (g2 := F0 m 7 ls [.ref x9]) rfl ?_
    refine lv_astore_n hx hb d_La_query_7 rfl hl (by decide) rfl (fun ls hl => ?_)
    have hl : lv_has ls 2 [(1, .ref x9), (0, .ref xa)] := hl
    refine lv_iconst (v := 1) hx hb d_La_query_8 (by decide) ?_
    refine gh_reti hAe C V hr hlocks d_La_query_9 (by first | decide | omega | (dsimp only; omega)) (by first | decide | omega | (dsimp only; omega)) ?_
    exact Or.inr ⟨rfl, hex9⟩
theorem d_La_run_0 : decode b_La_run 0 = .ok (.aload_n 2, 1) := by decide +kernel
theorem d_La_run_1 : decode b_La_run 1 = .ok (.iconst 0, 1) := by decide +kernel
theorem d_La_run_2 : decode b_La_run 2 = .ok (.aload_n 0, 1) := by decide +kernel
theorem d_La_run_3 : decode b_La_run 3 = .ok (.iload_n 1, 1) := by decide +kernel
theorem d_La_run_4 : decode b_La_run 4 = .ok (.invokevirtual 26, 3) := by decide +kernel
theorem d_La_run_7 : decode b_La_run 7 = .ok (.i2l, 1) := by decide +kernel
theorem d_La_run_8 : decode b_La_run 8 = .ok (.lastore, 1) := by decide +kernel
theorem d_La_run_9 : decode b_La_run 9 = .ok (.goto 6, 3) := by decide +kernel
theorem d_La_run_12 : decode b_La_run 12 = .ok (.astore_n 3, 1) := by decide +kernel
theorem d_La_run_13 : decode b_La_run 13 = .ok (.iconst 1, 1) := by decide +kernel
theorem d_La_run_14 : decode b_La_run 14 = .ok (.ireturn, 1) := by decide +kernel
theorem d_La_run_15 : decode b_La_run 15 = .ok (.iconst 0, 1) := by decide +kernel
theorem d_La_run_16 : decode b_La_run 16 = .ok (.ireturn, 1) := by decide +kernel
set_option maxHeartbeats 4000000 in
set_option maxRecDepth 100000 in
theorem c_La_run (l : Launch) (E : gh_E) (sz : Nat) (f : gh_F) (xa oa : Nat) (p0 : Int32) (fs : List Value) (hxa : f xa = some (.inr (0, fs))) (post : Option Value → gh_F → Prop) (ex : String → gh_F → Prop) (hM : ∀ sz, gt_M l y_QM_run b_QM_run 2 (some .int) E sz [.ref xa, .int p0] f { frames := 170, cells := 750, slots := 9750, locals := 6200 } post ex) (hex : ∀ cls g, ex cls g → cls = X_IA) (hri : ∀ r g, post r g → (∃ v, r = some (.int v)) ∧ ∃ h : Nat → Int64, g oa = some (.inl (E.2.2.1 1, 1, .inr (.inl h)))) : gc_M l y_La_run b_La_run 4 (some .int) [(0, 9, 12, 13)] E sz [.ref xa, .int p0, .ref oa] f { frames := 172, cells := 750, slots := 9750, locals := 6240 } (fun r g => (r = some (.int 0) ∧ ∃ v g0 h, post (some (.int v)) g0 ∧ g0 oa = some (.inl (E.2.2.1 1, 1, .inr (.inl h))) ∧ g = gh_u g0 oa (.inl (E.2.2.1 1, 1, .inr (.inl (vp_updL h 0 v.toInt64))))) ∨ (r = some (.int 1) ∧ ex X_IA g)) := by
  refine gc_open (by decide) (Nat.le_of_ble_eq_true rfl) ?_
  intro p e s m args below meth c A ls htab hAe C V hr hlocks hname hl
  have hx := C.1
  have hb := C.2.1
  have htab : c.exceptionTable.toList = [⟨0, 9, 12, 13⟩] := htab
  have hl : lv_has ls 4 [(0, .ref xa), (1, .int p0), (2, .ref oa)] := hl
  refine lv_aload_n hx hb d_La_run_0 rfl (lv_at hl 2 rfl) ?_
  refine lv_iconst (v := 0) hx hb d_La_run_1 (by decide) ?_
  refine lv_aload_n hx hb d_La_run_2 rfl (lv_at hl 0 rfl) ?_
  refine lv_iload_n hx hb d_La_run_3 rfl (lv_at hl 1 rfl) ?_
  refine gt_callV C V hl.1 m_QM_run l_La_26 (hM _) rfl hxa gc_QM ⟨by first | decide | omega | (dsimp only; omega), by first | decide | omega | (dsimp only; omega)⟩ ⟨by first | decide | omega | (dsimp only; omega), by first | decide | omega | (dsimp only; omega)⟩ (Nat.le_of_ble_eq_true rfl) rfl d_La_run_4 (fun r g9 H locs hp9 V1 => ?_) (fun x9 cls9 g8 T9 locs9 hex9 hx9 V9 X9 => ?_)
  · have V := V1
    obtain ⟨⟨v9, hv9⟩, h9, ho9⟩ := hri r g9 hp9
    rw [hv9] at hp9
    rw [hv9]
    refine W.eq (g2 := F0 m 7 ls [.int v9, .int 0, .ref oa]) rfl ?_
    refine lv_i2l hx hb d_La_run_7 rfl ?_
    refine W.eq (g2 := F0 m 8 ls [.long v9.toInt64, .int (nI 0), .ref oa]) rfl ?_
    refine gn_last (i := 0) C V ho9 (by decide) (by decide) d_La_run_8 (fun H locs V1 => ?_)
    have V := V1
    refine W.eq (g2 := F0 m 9 ls []) rfl ?_
    refine lv_goto (tgt := 15) hx hb d_La_run_9 (by decide) ?_
    refine lv_iconst (v := 0) hx hb d_La_run_15 (by decide) ?_
    refine gh_reti hAe C V hr hlocks d_La_run_16 (by first | decide | omega | (dsimp only; omega)) (by first | decide | omega | (dsimp only; omega)) ?_
    exact Or.inl ⟨rfl, v9, g9, h9, hp9, ho9, rfl⟩
  · have V := V9
    have hc9 := hex cls9 g8 hex9
    rw [hc9] at hex9 hx9
    refine gt_caught1 X9 hx9 htab C.2.2.2.1 (C.2.2.2.2.1 _ k_La_13) (C.2.2.2.2.1 _ gx_IA_n) (by decide) (by decide) (gc_Y C).2.2.1.1 ?_
    refine W.eq (g2 := F0 m 12 ls [.ref x9]) rfl ?_
    refine lv_astore_n hx hb d_La_run_12 rfl hl (by decide) rfl (fun ls hl => ?_)
    have hl : lv_has ls 4 [(3, .ref x9), (0, .ref xa), (1, .int p0), (2, .ref oa)] := hl
    refine lv_iconst (v := 1) hx hb d_La_run_13 (by decide) ?_
    refine gh_reti hAe C V hr hlocks d_La_run_14 (by first | decide | omega | (dsimp only; omega)) (by first | decide | omega | (dsimp only; omega)) ?_
    exact Or.inr ⟨rfl, hex9⟩
theorem d_La_kind_0 : decode b_La_kind 0 = .ok (.aload_n 2, 1) := by decide +kernel
theorem d_La_kind_1 : decode b_La_kind 1 = .ok (.iconst 0, 1) := by decide +kernel
theorem d_La_kind_2 : decode b_La_kind 2 = .ok (.aload_n 0, 1) := by decide +kernel
theorem d_La_kind_3 : decode b_La_kind 3 = .ok (.iload_n 1, 1) := by decide +kernel
theorem d_La_kind_4 : decode b_La_kind 4 = .ok (.invokevirtual 30, 3) := by decide +kernel
theorem d_La_kind_7 : decode b_La_kind 7 = .ok (.i2l, 1) := by decide +kernel
theorem d_La_kind_8 : decode b_La_kind 8 = .ok (.lastore, 1) := by decide +kernel
theorem d_La_kind_9 : decode b_La_kind 9 = .ok (.goto 6, 3) := by decide +kernel
theorem d_La_kind_12 : decode b_La_kind 12 = .ok (.astore_n 3, 1) := by decide +kernel
theorem d_La_kind_13 : decode b_La_kind 13 = .ok (.iconst 1, 1) := by decide +kernel
theorem d_La_kind_14 : decode b_La_kind 14 = .ok (.ireturn, 1) := by decide +kernel
theorem d_La_kind_15 : decode b_La_kind 15 = .ok (.iconst 0, 1) := by decide +kernel
theorem d_La_kind_16 : decode b_La_kind 16 = .ok (.ireturn, 1) := by decide +kernel
set_option maxHeartbeats 4000000 in
set_option maxRecDepth 100000 in
theorem c_La_kind (l : Launch) (E : gh_E) (sz : Nat) (f : gh_F) (xa oa : Nat) (p0 : Int32) (fs : List Value) (hxa : f xa = some (.inr (0, fs))) (post : Option Value → gh_F → Prop) (ex : String → gh_F → Prop) (hM : ∀ sz, gt_M l y_QM_kind b_QM_kind 2 (some .int) E sz [.ref xa, .int p0] f { frames := 12, cells := 1, slots := 6, locals := 200 } post ex) (hex : ∀ cls g, ex cls g → cls = X_NS) (hri : ∀ r g, post r g → (∃ v, r = some (.int v)) ∧ ∃ h : Nat → Int64, g oa = some (.inl (E.2.2.1 1, 1, .inr (.inl h)))) : gc_M l y_La_kind b_La_kind 4 (some .int) [(0, 9, 12, 33)] E sz [.ref xa, .int p0, .ref oa] f { frames := 14, cells := 1, slots := 6, locals := 240 } (fun r g => (r = some (.int 0) ∧ ∃ v g0 h, post (some (.int v)) g0 ∧ g0 oa = some (.inl (E.2.2.1 1, 1, .inr (.inl h))) ∧ g = gh_u g0 oa (.inl (E.2.2.1 1, 1, .inr (.inl (vp_updL h 0 v.toInt64))))) ∨ (r = some (.int 1) ∧ ex X_NS g)) := by
  refine gc_open (by decide) (Nat.le_of_ble_eq_true rfl) ?_
  intro p e s m args below meth c A ls htab hAe C V hr hlocks hname hl
  have hx := C.1
  have hb := C.2.1
  have htab : c.exceptionTable.toList = [⟨0, 9, 12, 33⟩] := htab
  have hl : lv_has ls 4 [(0, .ref xa), (1, .int p0), (2, .ref oa)] := hl
  refine lv_aload_n hx hb d_La_kind_0 rfl (lv_at hl 2 rfl) ?_
  refine lv_iconst (v := 0) hx hb d_La_kind_1 (by decide) ?_
  refine lv_aload_n hx hb d_La_kind_2 rfl (lv_at hl 0 rfl) ?_
  refine lv_iload_n hx hb d_La_kind_3 rfl (lv_at hl 1 rfl) ?_
  refine gt_callV C V hl.1 m_QM_kind l_La_30 (hM _) rfl hxa gc_QM ⟨by first | decide | omega | (dsimp only; omega), by first | decide | omega | (dsimp only; omega)⟩ ⟨by first | decide | omega | (dsimp only; omega), by first | decide | omega | (dsimp only; omega)⟩ (Nat.le_of_ble_eq_true rfl) rfl d_La_kind_4 (fun r g9 H locs hp9 V1 => ?_) (fun x9 cls9 g8 T9 locs9 hex9 hx9 V9 X9 => ?_)
  · have V := V1
    obtain ⟨⟨v9, hv9⟩, h9, ho9⟩ := hri r g9 hp9
    rw [hv9] at hp9
    rw [hv9]
    refine W.eq (g2 := F0 m 7 ls [.int v9, .int 0, .ref oa]) rfl ?_
    refine lv_i2l hx hb d_La_kind_7 rfl ?_
    refine W.eq (g2 := F0 m 8 ls [.long v9.toInt64, .int (nI 0), .ref oa]) rfl ?_
    refine gn_last (i := 0) C V ho9 (by decide) (by decide) d_La_kind_8 (fun H locs V1 => ?_)
    have V := V1
    refine W.eq (g2 := F0 m 9 ls []) rfl ?_
    refine lv_goto (tgt := 15) hx hb d_La_kind_9 (by decide) ?_
    refine lv_iconst (v := 0) hx hb d_La_kind_15 (by decide) ?_
    refine gh_reti hAe C V hr hlocks d_La_kind_16 (by first | decide | omega | (dsimp only; omega)) (by first | decide | omega | (dsimp only; omega)) ?_
    exact Or.inl ⟨rfl, v9, g9, h9, hp9, ho9, rfl⟩
  · have V := V9
    have hc9 := hex cls9 g8 hex9
    rw [hc9] at hex9 hx9
    refine gt_caught1 X9 hx9 htab C.2.2.2.1 (C.2.2.2.2.1 _ k_La_33) (C.2.2.2.2.1 _ gx_NS_n) (by decide) (by decide) (gc_Y C).2.2.1.2.2.1 ?_
    refine W.eq (g2 := F0 m 12 ls [.ref x9]) rfl ?_
    refine lv_astore_n hx hb d_La_kind_12 rfl hl (by decide) rfl (fun ls hl => ?_)
    have hl : lv_has ls 4 [(3, .ref x9), (0, .ref xa), (1, .int p0), (2, .ref oa)] := hl
    refine lv_iconst (v := 1) hx hb d_La_kind_13 (by decide) ?_
    refine gh_reti hAe C V hr hlocks d_La_kind_14 (by first | decide | omega | (dsimp only; omega)) (by first | decide | omega | (dsimp only; omega)) ?_
    exact Or.inr ⟨rfl, hex9⟩
theorem d_La_written_0 : decode b_La_written 0 = .ok (.aload_n 3, 1) := by decide +kernel
theorem d_La_written_1 : decode b_La_written 1 = .ok (.iconst 0, 1) := by decide +kernel
theorem d_La_written_2 : decode b_La_written 2 = .ok (.aload_n 0, 1) := by decide +kernel
theorem d_La_written_3 : decode b_La_written 3 = .ok (.iload_n 1, 1) := by decide +kernel
theorem d_La_written_4 : decode b_La_written 4 = .ok (.iload_n 2, 1) := by decide +kernel
theorem d_La_written_5 : decode b_La_written 5 = .ok (.invokevirtual 35, 3) := by decide +kernel
theorem d_La_written_8 : decode b_La_written 8 = .ok (.i2l, 1) := by decide +kernel
theorem d_La_written_9 : decode b_La_written 9 = .ok (.lastore, 1) := by decide +kernel
theorem d_La_written_10 : decode b_La_written 10 = .ok (.goto 11, 3) := by decide +kernel
theorem d_La_written_13 : decode b_La_written 13 = .ok (.astore 4, 2) := by decide +kernel
theorem d_La_written_15 : decode b_La_written 15 = .ok (.iconst 1, 1) := by decide +kernel
theorem d_La_written_16 : decode b_La_written 16 = .ok (.ireturn, 1) := by decide +kernel
theorem d_La_written_17 : decode b_La_written 17 = .ok (.astore 4, 2) := by decide +kernel
theorem d_La_written_19 : decode b_La_written 19 = .ok (.iconst 2, 1) := by decide +kernel
theorem d_La_written_20 : decode b_La_written 20 = .ok (.ireturn, 1) := by decide +kernel
theorem d_La_written_21 : decode b_La_written 21 = .ok (.iconst 0, 1) := by decide +kernel
theorem d_La_written_22 : decode b_La_written 22 = .ok (.ireturn, 1) := by decide +kernel
set_option maxHeartbeats 4000000 in
set_option maxRecDepth 100000 in
theorem c_La_written (l : Launch) (E : gh_E) (sz : Nat) (f : gh_F) (xa oa : Nat) (p0 : Int32) (p1 : Int32) (fs : List Value) (hxa : f xa = some (.inr (0, fs))) (post : Option Value → gh_F → Prop) (ex : String → gh_F → Prop) (hM : ∀ sz, gt_M l y_QM_written b_QM_written 3 (some .int) E sz [.ref xa, .int p0, .int p1] f { frames := 40, cells := 2, slots := 12, locals := 1000 } post ex) (hex : ∀ cls g, ex cls g → cls = X_NS ∨ cls = X_IO) (hri : ∀ r g, post r g → (∃ v, r = some (.int v)) ∧ ∃ h : Nat → Int64, g oa = some (.inl (E.2.2.1 1, 1, .inr (.inl h)))) : gc_M l y_La_written b_La_written 5 (some .int) [(0, 10, 13, 33), (0, 10, 17, 39)] E sz [.ref xa, .int p0, .int p1, .ref oa] f { frames := 42, cells := 2, slots := 12, locals := 1040 } (fun r g => (r = some (.int 0) ∧ ∃ v g0 h, post (some (.int v)) g0 ∧ g0 oa = some (.inl (E.2.2.1 1, 1, .inr (.inl h))) ∧ g = gh_u g0 oa (.inl (E.2.2.1 1, 1, .inr (.inl (vp_updL h 0 v.toInt64))))) ∨ (r = some (.int 1) ∧ ex X_NS g) ∨ (r = some (.int 2) ∧ ex X_IO g)) := by
  refine gc_open (by decide) (Nat.le_of_ble_eq_true rfl) ?_
  intro p e s m args below meth c A ls htab hAe C V hr hlocks hname hl
  have hx := C.1
  have hb := C.2.1
  have htab : c.exceptionTable.toList = [⟨0, 10, 13, 33⟩, ⟨0, 10, 17, 39⟩] := htab
  have hl : lv_has ls 5 [(0, .ref xa), (1, .int p0), (2, .int p1), (3, .ref oa)] := hl
  refine lv_aload_n hx hb d_La_written_0 rfl (lv_at hl 3 rfl) ?_
  refine lv_iconst (v := 0) hx hb d_La_written_1 (by decide) ?_
  refine lv_aload_n hx hb d_La_written_2 rfl (lv_at hl 0 rfl) ?_
  refine lv_iload_n hx hb d_La_written_3 rfl (lv_at hl 1 rfl) ?_
  refine lv_iload_n hx hb d_La_written_4 rfl (lv_at hl 2 rfl) ?_
  refine gt_callV C V hl.1 m_QM_written l_La_35 (hM _) rfl hxa gc_QM ⟨by first | decide | omega | (dsimp only; omega), by first | decide | omega | (dsimp only; omega)⟩ ⟨by first | decide | omega | (dsimp only; omega), by first | decide | omega | (dsimp only; omega)⟩ (Nat.le_of_ble_eq_true rfl) rfl d_La_written_5 (fun r g9 H locs hp9 V1 => ?_) (fun x9 cls9 g8 T9 locs9 hex9 hx9 V9 X9 => ?_)
  · have V := V1
    obtain ⟨⟨v9, hv9⟩, h9, ho9⟩ := hri r g9 hp9
    rw [hv9] at hp9
    rw [hv9]
    refine W.eq (g2 := F0 m 8 ls [.int v9, .int 0, .ref oa]) rfl ?_
    refine lv_i2l hx hb d_La_written_8 rfl ?_
    refine W.eq (g2 := F0 m 9 ls [.long v9.toInt64, .int (nI 0), .ref oa]) rfl ?_
    refine gn_last (i := 0) C V ho9 (by decide) (by decide) d_La_written_9 (fun H locs V1 => ?_)
    have V := V1
    refine W.eq (g2 := F0 m 10 ls []) rfl ?_
    refine lv_goto (tgt := 21) hx hb d_La_written_10 (by decide) ?_
    refine lv_iconst (v := 0) hx hb d_La_written_21 (by decide) ?_
    refine gh_reti hAe C V hr hlocks d_La_written_22 (by first | decide | omega | (dsimp only; omega)) (by first | decide | omega | (dsimp only; omega)) ?_
    exact Or.inl ⟨rfl, v9, g9, h9, hp9, ho9, rfl⟩
  · have V := V9
    rcases hex cls9 g8 hex9 with hc9 | hc9
    · rw [hc9] at hex9 hx9
      refine gt_caught1 X9 hx9 htab C.2.2.2.1 (C.2.2.2.2.1 _ k_La_33) (C.2.2.2.2.1 _ gx_NS_n) (by decide) (by decide) (gc_Y C).2.2.1.2.2.1 ?_
      refine W.eq (g2 := F0 m 13 ls [.ref x9]) rfl ?_
      refine lv_astore hx hb d_La_written_13 hl (by decide) rfl (fun ls hl => ?_)
      have hl : lv_has ls 5 [(4, .ref x9), (0, .ref xa), (1, .int p0), (2, .int p1), (3, .ref oa)] := hl
      refine lv_iconst (v := 1) hx hb d_La_written_15 (by decide) ?_
      refine gh_reti hAe C V hr hlocks d_La_written_16 (by first | decide | omega | (dsimp only; omega)) (by first | decide | omega | (dsimp only; omega)) ?_
      exact Or.inr (Or.inl ⟨rfl, hex9⟩)
    · rw [hc9] at hex9 hx9
      refine gt_caught2 X9 hx9 htab C.2.2.2.1 (C.2.2.2.2.1 _ k_La_33) (C.2.2.2.2.1 _ k_La_39) (C.2.2.2.2.1 _ gx_NS_n) (C.2.2.2.2.1 _ gx_IO_n) (by decide) (by decide) (by decide) (by decide) (gc_Y C).2.2.2.2.1.2.1 (gc_Y C).2.2.1.2.2.2 ?_
      refine W.eq (g2 := F0 m 17 ls [.ref x9]) rfl ?_
      refine lv_astore hx hb d_La_written_17 hl (by decide) rfl (fun ls hl => ?_)
      have hl : lv_has ls 5 [(4, .ref x9), (0, .ref xa), (1, .int p0), (2, .int p1), (3, .ref oa)] := hl
      refine lv_iconst (v := 2) hx hb d_La_written_19 (by decide) ?_
      refine gh_reti hAe C V hr hlocks d_La_written_20 (by first | decide | omega | (dsimp only; omega)) (by first | decide | omega | (dsimp only; omega)) ?_
      exact Or.inr (Or.inr ⟨rfl, hex9⟩)
theorem d_La_integer_0 : decode b_La_integer 0 = .ok (.aload_n 2, 1) := by decide +kernel
theorem d_La_integer_1 : decode b_La_integer 1 = .ok (.iconst 0, 1) := by decide +kernel
theorem d_La_integer_2 : decode b_La_integer 2 = .ok (.aload_n 0, 1) := by decide +kernel
theorem d_La_integer_3 : decode b_La_integer 3 = .ok (.iload_n 1, 1) := by decide +kernel
theorem d_La_integer_4 : decode b_La_integer 4 = .ok (.invokevirtual 41, 3) := by decide +kernel
theorem d_La_integer_7 : decode b_La_integer 7 = .ok (.lastore, 1) := by decide +kernel
theorem d_La_integer_8 : decode b_La_integer 8 = .ok (.goto 9, 3) := by decide +kernel
theorem d_La_integer_11 : decode b_La_integer 11 = .ok (.astore_n 3, 1) := by decide +kernel
theorem d_La_integer_12 : decode b_La_integer 12 = .ok (.iconst 1, 1) := by decide +kernel
theorem d_La_integer_13 : decode b_La_integer 13 = .ok (.ireturn, 1) := by decide +kernel
theorem d_La_integer_14 : decode b_La_integer 14 = .ok (.astore_n 3, 1) := by decide +kernel
theorem d_La_integer_15 : decode b_La_integer 15 = .ok (.iconst 2, 1) := by decide +kernel
theorem d_La_integer_16 : decode b_La_integer 16 = .ok (.ireturn, 1) := by decide +kernel
theorem d_La_integer_17 : decode b_La_integer 17 = .ok (.iconst 0, 1) := by decide +kernel
theorem d_La_integer_18 : decode b_La_integer 18 = .ok (.ireturn, 1) := by decide +kernel
set_option maxHeartbeats 4000000 in
set_option maxRecDepth 100000 in
theorem c_La_integer (l : Launch) (E : gh_E) (sz : Nat) (f : gh_F) (xa oa : Nat) (p0 : Int32) (fs : List Value) (hxa : f xa = some (.inr (0, fs))) (post : Option Value → gh_F → Prop) (ex : String → gh_F → Prop) (hM : ∀ sz, gt_M l y_QM_integer b_QM_integer 3 (some .long) E sz [.ref xa, .int p0] f { frames := 12, cells := 2, slots := 12, locals := 200 } post ex) (hex : ∀ cls g, ex cls g → cls = X_NS ∨ cls = X_IS) (hri : ∀ r g, post r g → (∃ v, r = some (.long v)) ∧ ∃ h : Nat → Int64, g oa = some (.inl (E.2.2.1 1, 1, .inr (.inl h)))) : gc_M l y_La_integer b_La_integer 4 (some .int) [(0, 8, 11, 33), (0, 8, 14, 15)] E sz [.ref xa, .int p0, .ref oa] f { frames := 14, cells := 2, slots := 12, locals := 240 } (fun r g => (r = some (.int 0) ∧ ∃ v g0 h, post (some (.long v)) g0 ∧ g0 oa = some (.inl (E.2.2.1 1, 1, .inr (.inl h))) ∧ g = gh_u g0 oa (.inl (E.2.2.1 1, 1, .inr (.inl (vp_updL h 0 v))))) ∨ (r = some (.int 1) ∧ ex X_NS g) ∨ (r = some (.int 2) ∧ ex X_IS g)) := by
  refine gc_open (by decide) (Nat.le_of_ble_eq_true rfl) ?_
  intro p e s m args below meth c A ls htab hAe C V hr hlocks hname hl
  have hx := C.1
  have hb := C.2.1
  have htab : c.exceptionTable.toList = [⟨0, 8, 11, 33⟩, ⟨0, 8, 14, 15⟩] := htab
  have hl : lv_has ls 4 [(0, .ref xa), (1, .int p0), (2, .ref oa)] := hl
  refine lv_aload_n hx hb d_La_integer_0 rfl (lv_at hl 2 rfl) ?_
  refine lv_iconst (v := 0) hx hb d_La_integer_1 (by decide) ?_
  refine lv_aload_n hx hb d_La_integer_2 rfl (lv_at hl 0 rfl) ?_
  refine lv_iload_n hx hb d_La_integer_3 rfl (lv_at hl 1 rfl) ?_
  refine gt_callV C V hl.1 m_QM_integer l_La_41 (hM _) rfl hxa gc_QM ⟨by first | decide | omega | (dsimp only; omega), by first | decide | omega | (dsimp only; omega)⟩ ⟨by first | decide | omega | (dsimp only; omega), by first | decide | omega | (dsimp only; omega)⟩ (Nat.le_of_ble_eq_true rfl) rfl d_La_integer_4 (fun r g9 H locs hp9 V1 => ?_) (fun x9 cls9 g8 T9 locs9 hex9 hx9 V9 X9 => ?_)
  · have V := V1
    obtain ⟨⟨v9, hv9⟩, h9, ho9⟩ := hri r g9 hp9
    rw [hv9] at hp9
    rw [hv9]
    refine W.eq (g2 := F0 m 7 ls [.long v9, .int 0, .ref oa]) rfl ?_
    refine W.eq (g2 := F0 m 7 ls [.long v9, .int (nI 0), .ref oa]) rfl ?_
    refine gn_last (i := 0) C V ho9 (by decide) (by decide) d_La_integer_7 (fun H locs V1 => ?_)
    have V := V1
    refine W.eq (g2 := F0 m 8 ls []) rfl ?_
    refine lv_goto (tgt := 17) hx hb d_La_integer_8 (by decide) ?_
    refine lv_iconst (v := 0) hx hb d_La_integer_17 (by decide) ?_
    refine gh_reti hAe C V hr hlocks d_La_integer_18 (by first | decide | omega | (dsimp only; omega)) (by first | decide | omega | (dsimp only; omega)) ?_
    exact Or.inl ⟨rfl, v9, g9, h9, hp9, ho9, rfl⟩
  · have V := V9
    rcases hex cls9 g8 hex9 with hc9 | hc9
    · rw [hc9] at hex9 hx9
      refine gt_caught1 X9 hx9 htab C.2.2.2.1 (C.2.2.2.2.1 _ k_La_33) (C.2.2.2.2.1 _ gx_NS_n) (by decide) (by decide) (gc_Y C).2.2.1.2.2.1 ?_
      refine W.eq (g2 := F0 m 11 ls [.ref x9]) rfl ?_
      refine lv_astore_n hx hb d_La_integer_11 rfl hl (by decide) rfl (fun ls hl => ?_)
      have hl : lv_has ls 4 [(3, .ref x9), (0, .ref xa), (1, .int p0), (2, .ref oa)] := hl
      refine lv_iconst (v := 1) hx hb d_La_integer_12 (by decide) ?_
      refine gh_reti hAe C V hr hlocks d_La_integer_13 (by first | decide | omega | (dsimp only; omega)) (by first | decide | omega | (dsimp only; omega)) ?_
      exact Or.inr (Or.inl ⟨rfl, hex9⟩)
    · rw [hc9] at hex9 hx9
      refine gt_caught2 X9 hx9 htab C.2.2.2.1 (C.2.2.2.2.1 _ k_La_33) (C.2.2.2.2.1 _ k_La_15) (C.2.2.2.2.1 _ gx_NS_n) (C.2.2.2.2.1 _ gx_IS_n) (by decide) (by decide) (by decide) (by decide) (gc_Y C).2.2.2.2.1.2.2 (gc_Y C).2.2.1.2.1 ?_
      refine W.eq (g2 := F0 m 14 ls [.ref x9]) rfl ?_
      refine lv_astore_n hx hb d_La_integer_14 rfl hl (by decide) rfl (fun ls hl => ?_)
      have hl : lv_has ls 4 [(3, .ref x9), (0, .ref xa), (1, .int p0), (2, .ref oa)] := hl
      refine lv_iconst (v := 2) hx hb d_La_integer_15 (by decide) ?_
      refine gh_reti hAe C V hr hlocks d_La_integer_16 (by first | decide | omega | (dsimp only; omega)) (by first | decide | omega | (dsimp only; omega)) ?_
      exact Or.inr (Or.inr ⟨rfl, hex9⟩)
theorem d_La_adopt_0 : decode b_La_adopt 0 = .ok (.aload_n 0, 1) := by decide +kernel
theorem d_La_adopt_1 : decode b_La_adopt 1 = .ok (.iload_n 1, 1) := by decide +kernel
theorem d_La_adopt_2 : decode b_La_adopt 2 = .ok (.invokevirtual 45, 3) := by decide +kernel
theorem d_La_adopt_5 : decode b_La_adopt 5 = .ok (.goto 6, 3) := by decide +kernel
theorem d_La_adopt_8 : decode b_La_adopt 8 = .ok (.astore_n 2, 1) := by decide +kernel
theorem d_La_adopt_9 : decode b_La_adopt 9 = .ok (.iconst 1, 1) := by decide +kernel
theorem d_La_adopt_10 : decode b_La_adopt 10 = .ok (.ireturn, 1) := by decide +kernel
theorem d_La_adopt_11 : decode b_La_adopt 11 = .ok (.iconst 0, 1) := by decide +kernel
theorem d_La_adopt_12 : decode b_La_adopt 12 = .ok (.ireturn, 1) := by decide +kernel
set_option maxHeartbeats 4000000 in
set_option maxRecDepth 100000 in
theorem c_La_adopt (l : Launch) (E : gh_E) (sz : Nat) (f : gh_F) (xa : Nat) (p0 : Int32) (fs : List Value) (hxa : f xa = some (.inr (0, fs))) (post : Option Value → gh_F → Prop) (ex : String → gh_F → Prop) (hM : ∀ sz, gt_M l y_QM_adopt b_QM_adopt 2 none E sz [.ref xa, .int p0] f { frames := 10, cells := 1, slots := 6, locals := 160 } post ex) (hex : ∀ cls g, ex cls g → cls = X_NS) (hri : ∀ r g, post r g → r = none) : gc_M l y_La_adopt b_La_adopt 3 (some .int) [(0, 5, 8, 33)] E sz [.ref xa, .int p0] f { frames := 12, cells := 1, slots := 6, locals := 200 } (fun r g => (r = some (.int 0) ∧ post none g) ∨ (r = some (.int 1) ∧ ex X_NS g)) := by
  refine gc_open (by decide) (Nat.le_of_ble_eq_true rfl) ?_
  intro p e s m args below meth c A ls htab hAe C V hr hlocks hname hl
  have hx := C.1
  have hb := C.2.1
  have htab : c.exceptionTable.toList = [⟨0, 5, 8, 33⟩] := htab
  have hl : lv_has ls 3 [(0, .ref xa), (1, .int p0)] := hl
  refine lv_aload_n hx hb d_La_adopt_0 rfl (lv_at hl 0 rfl) ?_
  refine lv_iload_n hx hb d_La_adopt_1 rfl (lv_at hl 1 rfl) ?_
  refine gt_callV C V hl.1 m_QM_adopt l_La_45 (hM _) rfl hxa gc_QM ⟨by first | decide | omega | (dsimp only; omega), by first | decide | omega | (dsimp only; omega)⟩ ⟨by first | decide | omega | (dsimp only; omega), by first | decide | omega | (dsimp only; omega)⟩ (Nat.le_of_ble_eq_true rfl) rfl d_La_adopt_2 (fun r g9 H locs hp9 V1 => ?_) (fun x9 cls9 g8 T9 locs9 hex9 hx9 V9 X9 => ?_)
  · have V := V1
    have hn9 := hri r g9 hp9
    rw [hn9] at hp9
    rw [hn9]
    refine W.eq (g2 := F0 m 5 ls []) rfl ?_
    refine lv_goto (tgt := 11) hx hb d_La_adopt_5 (by decide) ?_
    refine lv_iconst (v := 0) hx hb d_La_adopt_11 (by decide) ?_
    refine gh_reti hAe C V hr hlocks d_La_adopt_12 (by first | decide | omega | (dsimp only; omega)) (by first | decide | omega | (dsimp only; omega)) ?_
    exact Or.inl ⟨rfl, hp9⟩
  · have V := V9
    have hc9 := hex cls9 g8 hex9
    rw [hc9] at hex9 hx9
    refine gt_caught1 X9 hx9 htab C.2.2.2.1 (C.2.2.2.2.1 _ k_La_33) (C.2.2.2.2.1 _ gx_NS_n) (by decide) (by decide) (gc_Y C).2.2.1.2.2.1 ?_
    refine W.eq (g2 := F0 m 8 ls [.ref x9]) rfl ?_
    refine lv_astore_n hx hb d_La_adopt_8 rfl hl (by decide) rfl (fun ls hl => ?_)
    have hl : lv_has ls 3 [(2, .ref x9), (0, .ref xa), (1, .int p0)] := hl
    refine lv_iconst (v := 1) hx hb d_La_adopt_9 (by decide) ?_
    refine gh_reti hAe C V hr hlocks d_La_adopt_10 (by first | decide | omega | (dsimp only; omega)) (by first | decide | omega | (dsimp only; omega)) ?_
    exact Or.inr ⟨rfl, hex9⟩
