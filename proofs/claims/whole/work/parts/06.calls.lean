/-! Calls over the ghost heap: the callee's contract is of the whole ghost heap, so nothing is cut out and nothing joined. -/
theorem gh_good {ws : List Cond} (h : ∀ w ∈ ws, w ∈ g_tbl) : GoodIn g_tbl ws := fun w hw => ⟨h w hw, good_of_word (List.mem_filter.mp (h w hw)).2⟩
section GC
variable {p : Program} {l : Launch} {e : Env} {R : Room} {s : State} {m : MethodId} {args : Array Value} {below : List Frame} {meth : Method} {c : Code} {H : Heap} {locs : List Loc} {cells slots : Nat} {Q : State → Prop}
variable {cc : ByteArray} {pc : Nat} {ls : Array Slot} {rest : List Value} {E : gh_E} {A : Nat → Prop} {f : gh_F} {own : String} {nL : Nat}
theorem gh_after {post : Option Value → gh_F → Prop} {mc ms : Nat} {st0 : List Value} {a0 : Array Value} (hr : va_Run p l e R s m args below meth c H locs cells slots mc ms (F0 m pc ls st0) rest (gh_Q E f post a0) (gh_Fr f H.size)) (C : gh_C E A p s m args c cc own nL) (V : gh_V E A f s H locs)
    (kk : ∀ (r : Option Value) (f' : gh_F) (H1 : Heap) (locs1 : List Loc), post r f' → gh_V E A f' s H1 locs1 → W p l e R s m args below meth c H1 locs1 (cells + mc) (slots + ms) Q (F0 m (pc + 3) ls (r.toList ++ rest))) : W p l e R s m args below meth c H locs cells slots Q (F0 m pc ls st0) := by
  have hFA : ∀ q, gh_Fr f H.size q → A q := fun q h => h.elim (fun ⟨e, he⟩ => (V.1 q e he).1) (fun h => C.2.2.2.2.2.2.2.2.1 q (Nat.le_trans V.2.1 h))
  intro T hT X
  obtain ⟨v, st₀, t, T', L, h0, X', hL, e1, e2, ⟨r, f', hv, hp, hW, hd, hz, hk⟩, st⟩ := hr T hT X
  cases hv
  rw [h0] at hz hk hd
  obtain ⟨t2, a1, b1⟩ := kk v f' T'.heap (locs ++ L) hp ⟨by rw [e1]; exact hW.1.into (fun a e ha _ => hFA a (hd a e ha)), Nat.le_trans V.2.1 (by rw [e1]; exact hz), fun q h1 h2 => by rw [e1, hk q (Nat.lt_of_lt_of_le h1 V.2.1) (fun z => h2 (hFA q z))]; exact V.2.2.1 q h1 h2, fun q hq => (List.mem_append.mp hq).elim (V.2.2.2 q) (fun h => hFA _ (hL q h))⟩ T' rfl X'
  exact ⟨t2, st t2 a1, b1⟩
theorem gh_recv (C : gh_C E A p s m args c cc own nL) (V : gh_V E A f s H locs) {a ci : Nat} {fs : List Value} (he : f a = some (.inr (ci, fs))) {Cn : String} {T : u_T} {N : Nat} (hc : gh_cl[ci]? = some (Cn, T, N)) : ∃ cellB : Cell, H[a]? = some cellB ∧ cellB.vm.isStatics = false ∧ s.vm.findClass Cn = some cellB.cls := by
  obtain ⟨r, h1, cell, q1, q2, q3, q4⟩ := (V.1 a _ he).2
  obtain ⟨hS, hfc, kC, hkC, hkind⟩ := C.2.2.2.2.2.1.1 ci _ hc
  exact ⟨cell, q1, by rw [q3]; rfl, by rw [q2]; exact hfc⟩
theorem gh_callV (C : gh_C E A p s m args c cc own nL) (V : gh_V E A f s H locs) (hls : ls.size = nL) {y : MethodName} {b : ByteArray} {n k : Nat} {ret : Option FieldType} (M : gh_mv y b n ret k) {index : Nat} (hlink : Cond.methodLink own index y ∈ g_tbl) {rm : Room} {post : Option Value → gh_F → Prop} {a ci : Nat} {As : List Value} (hM : gh_M l y b n ret E H.size (.ref a :: As) f rm post) (hk : As.length = k) {fs : List Value} (he : f a = some (.inr (ci, fs))) {T : u_T} {N : Nat} (hc : gh_cl[ci]? = some (y.cls, T, N))
    (hR : rm.frames + 1 ≤ R.frames ∧ 8 + (n + 11) + rm.locals ≤ R.locals) (hf : cells + rm.cells ≤ R.cells ∧ slots + rm.slots ≤ R.slots) (hst : (rest.map fun v => v.category).sum ≤ 8) {st0 : List Value} (hs0 : st0 = As.reverse ++ .ref a :: rest) (hdg : decode cc pc = .ok (.invokevirtual index, 3))
    (kk : ∀ (r : Option Value) (f' : gh_F) (H1 : Heap) (locs1 : List Loc), post r f' → gh_V E A f' s H1 locs1 → W p l e R s m args below meth c H1 locs1 (cells + rm.cells) (slots + rm.slots) Q (F0 m (pc + 3) ls (r.toList ++ rest))) : W p l e R s m args below meth c H locs cells slots Q (F0 m pc ls st0) := by
  obtain ⟨m1, m2, m3, m4, m5, m6⟩ := M
  refine gh_after (va_runV (Ts := g_tbl) (C := y.cls) (b := a) (As := As) ⟨C.1, C.2.1, C.2.2.1, C.2.2.2.1, C.2.2.2.2.1⟩ hM (cwV (ws' := g_tbl) k C.2.2.2.2.1 (gh_good ?_) rfl rfl rfl ⟨rfl, m5⟩ hR) ⟨gh_blind E f _ _, gh_recv C V he hc, fun U hU hW => ⟨rfl, by rw [hU], gh_pre C.2.2.2.2.2.2.2.2.2 C.2.2.2.2.2.1 C.2.2.2.2.2.2.1 C.2.2.2.2.2.2.2.1 V U hU hW⟩⟩ rfl hk hls hs0 (lv_room hst) hdg hf) C V kk
  intro w hw
  simp only [wsV, List.mem_append, List.mem_cons, List.not_mem_nil, or_false] at hw
  rcases hw with (rfl | rfl | rfl | rfl) | rfl | hw
  · exact hlink
  · exact m2
  · exact m3
  · exact m4
  · exact m1
  · exact hw
theorem gh_callI (C : gh_C E A p s m args c cc own nL) (V : gh_V E A f s H locs) (hls : ls.size = nL) {y : MethodName} {b : ByteArray} {n k : Nat} (M : gh_mi y b n k) {index : Nat} (hlink : Cond.methodLink own index y ∈ g_tbl) {rm : Room} {post : Option Value → gh_F → Prop} {a : Nat} {As : List Value} (hM : gh_M l y b n none E H.size (.ref a :: As) f rm post) (hk : As.length = k)
    (hR : rm.frames + 1 ≤ R.frames ∧ 8 + (n + 11) + rm.locals ≤ R.locals) (hf : cells + rm.cells ≤ R.cells ∧ slots + rm.slots ≤ R.slots) (hst : (rest.map fun v => v.category).sum ≤ 8) {st0 : List Value} (hs0 : st0 = As.reverse ++ .ref a :: rest) (hdg : decode cc pc = .ok (.invokespecial index, 3))
    (kk : ∀ (r : Option Value) (f' : gh_F) (H1 : Heap) (locs1 : List Loc), post r f' → gh_V E A f' s H1 locs1 → W p l e R s m args below meth c H1 locs1 (cells + rm.cells) (slots + rm.slots) Q (F0 m (pc + 3) ls (r.toList ++ rest))) : W p l e R s m args below meth c H locs cells slots Q (F0 m pc ls st0) := by
  obtain ⟨m1, m2, m4, m5, m6, m7⟩ := M
  refine gh_after (va_runI (Ts := g_tbl) (b := a) (As := As) ⟨C.1, C.2.1, C.2.2.1, C.2.2.2.1, C.2.2.2.2.1⟩ hM (cwI (ws' := g_tbl) k C.2.2.2.2.1 (gh_good ?_) rfl rfl rfl (C.2.2.2.2.1 _ m4) (C.2.2.2.2.1 _ hlink) (C.2.2.2.2.1 _ m2) m7 m5 hR) ⟨gh_blind E f _ _, fun U hU hW => ⟨rfl, by rw [hU], gh_pre C.2.2.2.2.2.2.2.2.2 C.2.2.2.2.2.1 C.2.2.2.2.2.2.1 C.2.2.2.2.2.2.2.1 V U hU hW⟩⟩ rfl hk hls hs0 (lv_room hst) hdg hf) C V kk
  intro w hw
  rcases List.mem_cons.mp hw with rfl | hw
  · exact m1
  · exact hw
theorem gh_callS (C : gh_C E A p s m args c cc own nL) (V : gh_V E A f s H locs) (hls : ls.size = nL) {y : MethodName} {b : ByteArray} {n k : Nat} {ret : Option FieldType} (M : gh_ms y b n ret k) {index : Nat} (hlink : Cond.methodLink own index y ∈ g_tbl) {rm : Room} {post : Option Value → gh_F → Prop} {As : List Value} (hM : gh_M l y b n ret E H.size As f rm post) (hk : As.length = k)
    (hR : rm.frames + 1 ≤ R.frames ∧ 8 + (n + 11) + rm.locals ≤ R.locals) (hf : cells + rm.cells ≤ R.cells ∧ slots + rm.slots ≤ R.slots) (hst : (rest.map fun v => v.category).sum ≤ 8) {st0 : List Value} (hs0 : st0 = As.reverse ++ rest) (hdg : decode cc pc = .ok (.invokestatic index, 3))
    (kk : ∀ (r : Option Value) (f' : gh_F) (H1 : Heap) (locs1 : List Loc), post r f' → gh_V E A f' s H1 locs1 → W p l e R s m args below meth c H1 locs1 (cells + rm.cells) (slots + rm.slots) Q (F0 m (pc + 3) ls (r.toList ++ rest))) : W p l e R s m args below meth c H locs cells slots Q (F0 m pc ls st0) := by
  obtain ⟨m1, m2, m4, m5, m6⟩ := M
  have cb : CallB R s args own index y b n ret (Cond.code y b n ret :: g_tbl) rm rm.cells rm.slots k := callB_of (ws' := g_tbl) k C.2.2.2.2.1 (gh_good (fun w hw => (List.mem_cons.mp hw).elim (fun h => h ▸ m1) id)) rfl rfl rfl (C.2.2.2.2.1 _ m4) (C.2.2.2.2.1 _ hlink) m5 hR
  exact gh_after (va_runS (Ts := g_tbl) (As := As) ⟨C.1, C.2.1, C.2.2.1, C.2.2.2.1, C.2.2.2.2.1⟩ hM ⟨cb, C.2.2.2.2.1 _ m2⟩ ⟨gh_blind E f _ _, fun U hU hW => ⟨rfl, by rw [hU], gh_pre C.2.2.2.2.2.2.2.2.2 C.2.2.2.2.2.1 C.2.2.2.2.2.2.1 C.2.2.2.2.2.2.2.1 V U hU hW⟩⟩ rfl hk hls hs0 (lv_room hst) hdg hf) C V kk
theorem gh_callIN (C : gh_C E A p s m args c cc own nL) (V : gh_V E A f s H locs) (hls : ls.size = nL) {y : MethodName} {b : ByteArray} {n k : Nat} (M : gh_mi y b n k) {index : Nat} {host : String} (hlink : va_Nw (.methodLinkNest own index y host) s) {rm : Room} {post : Option Value → gh_F → Prop} {a : Nat} {As : List Value} (hM : gh_M l y b n none E H.size (.ref a :: As) f rm post) (hk : As.length = k)
    (hR : rm.frames + 1 ≤ R.frames ∧ 8 + (n + 11) + rm.locals ≤ R.locals) (hf : cells + rm.cells ≤ R.cells ∧ slots + rm.slots ≤ R.slots) (hst : (rest.map fun v => v.category).sum ≤ 8) {st0 : List Value} (hs0 : st0 = As.reverse ++ .ref a :: rest) (hdg : decode cc pc = .ok (.invokespecial index, 3))
    (kk : ∀ (r : Option Value) (f' : gh_F) (H1 : Heap) (locs1 : List Loc), post r f' → gh_V E A f' s H1 locs1 → W p l e R s m args below meth c H1 locs1 (cells + rm.cells) (slots + rm.slots) Q (F0 m (pc + 3) ls (r.toList ++ rest))) : W p l e R s m args below meth c H locs cells slots Q (F0 m pc ls st0) := by
  obtain ⟨m1, m2, m4, m5, m6, m7⟩ := M
  refine gh_after (va_runIN (Ts := g_tbl) (b := a) (As := As) ⟨C.1, C.2.1, C.2.2.1, C.2.2.2.1, C.2.2.2.2.1⟩ hM ⟨va_cnB (ws' := g_tbl) k C.2.2.2.2.1 (gh_good ?_) rfl rfl rfl hlink (C.2.2.2.2.1 _ m4) m5 hR, m7, C.2.2.2.2.1 _ m2⟩ ⟨gh_blind E f _ _, fun U hU hW => ⟨rfl, by rw [hU], gh_pre C.2.2.2.2.2.2.2.2.2 C.2.2.2.2.2.1 C.2.2.2.2.2.2.1 C.2.2.2.2.2.2.2.1 V U hU hW⟩⟩ rfl hk hls hs0 (lv_room hst) hdg hf) C V kk
  intro w hw
  rcases List.mem_cons.mp hw with rfl | hw
  · exact m1
  · exact hw
theorem gh_obj (C : gh_C E A p s m args c cc own nL) (hls : ls.size = nL) {index a : Nat} (hlink : Cond.methodLink own index objectInit ∈ g_tbl) (h1 : 1 ≤ R.frames) (h2 : (rest.map fun v => v.category).sum + 12 ≤ R.locals) (hdg : decode cc pc = .ok (.invokespecial index, 3))
    (kk : W p l e R s m args below meth c H locs cells slots Q (F0 m (pc + 3) ls rest)) : W p l e R s m args below meth c H locs cells slots Q (F0 m pc ls (.ref a :: rest)) :=
  W.objInit C.1 C.2.1 C.2.2.2.1 (C.2.2.2.2.1 _ hlink) (C.2.2.2.2.1 _ o_inst) (C.2.2.2.2.1 _ o_code) rfl (by rw [C.2.2.1]; exact hls) rfl hdg h1 (by show 2 * 0 + _ + 12 ≤ _; omega) kk
theorem gh_nolet (C : gh_C E A p s m args c cc R_Vs nL) (V : gh_V E A f s H locs) {index : Nat} (hlink : Cond.fieldLink R_Vs index R_Vs "NO_LETTERS" "[C" ∈ g_tbl) (hdg : decode cc pc = .ok (.getstatic index, 3))
    (kk : W p l e R s m args below meth c H locs cells slots Q (F0 m (pc + 3) ls (.ref (E.2.2.2 1) :: rest))) : W p l e R s m args below meth c H locs cells slots Q (F0 m pc ls rest) :=
  va_gets C.1 C.2.1 (C.2.2.2.2.2.2.2.1.2.2.1.narrow C.2.2.2.2.2.2.2.2.2) V.2 C.2.2.2.1 (C.2.2.2.2.1 _ hlink) (fun _ h => h) hdg kk
theorem gh_partsin (C : gh_C E A p s m args c cc R_Qu nL) (V : gh_V E A f s H locs) {index : Nat} (hlink : Cond.fieldLink R_Qu index R_Qu "PARTS_IN" "[I" ∈ g_tbl) (hdg : decode cc pc = .ok (.getstatic index, 3))
    (kk : W p l e R s m args below meth c H locs cells slots Q (F0 m (pc + 3) ls (.ref (E.2.2.2 0) :: rest))) : W p l e R s m args below meth c H locs cells slots Q (F0 m pc ls rest) :=
  va_gets C.1 C.2.1 (C.2.2.2.2.2.2.2.1.1.narrow C.2.2.2.2.2.2.2.2.2) V.2 C.2.2.2.1 (C.2.2.2.2.1 _ hlink) (fun _ h => h) hdg kk
end GC
