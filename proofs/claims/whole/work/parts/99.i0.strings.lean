/-! The JDK's own methods that the class calls: String.length, String.charAt of its three constants; Math.min, Math.abs. Printed by wip/whole/gen_str.py. -/
abbrev R_jS : String := "java/lang/String"
abbrev R_jL : String := "java/lang/StringLatin1"
abbrev R_jM : String := "java/lang/Math"
abbrev R_jP : String := "jdk/internal/util/Preconditions"
abbrev b_jS_length : ByteArray := prog_18_method_54_code
def y_jS_length : MethodName := ⟨R_jS, "length", "()I"⟩
theorem m_jS_length : gh_mv y_jS_length b_jS_length 1 (some .int) 0 := ⟨g_in 477 (by decide +kernel) (by decide +kernel), g_in 475 (by decide +kernel) (by decide +kernel), g_in 476 (by decide +kernel) (by decide +kernel), g_in 17 (by decide +kernel) (by decide +kernel), ⟨by decide +kernel, by decide +kernel, by decide +kernel⟩, by decide +kernel⟩
theorem d_jS_length_0 : decode b_jS_length 0 = .ok (.aload_n 0, 1) := by decide +kernel
theorem d_jS_length_1 : decode b_jS_length 1 = .ok (.getfield 9, 3) := by decide +kernel
theorem d_jS_length_4 : decode b_jS_length 4 = .ok (.arraylength, 1) := by decide +kernel
theorem d_jS_length_5 : decode b_jS_length 5 = .ok (.aload_n 0, 1) := by decide +kernel
theorem d_jS_length_6 : decode b_jS_length 6 = .ok (.invokevirtual 335, 3) := by decide +kernel
theorem d_jS_length_9 : decode b_jS_length 9 = .ok (.ishr, 1) := by decide +kernel
theorem d_jS_length_10 : decode b_jS_length 10 = .ok (.ireturn, 1) := by decide +kernel
abbrev b_jS_coder : ByteArray := prog_18_method_152_code
def y_jS_coder : MethodName := ⟨R_jS, "coder", "()B"⟩
theorem m_jS_coder : gh_mv y_jS_coder b_jS_coder 1 (some .byte) 0 := ⟨g_in 481 (by decide +kernel) (by decide +kernel), g_in 479 (by decide +kernel) (by decide +kernel), g_in 480 (by decide +kernel) (by decide +kernel), g_in 17 (by decide +kernel) (by decide +kernel), ⟨by decide +kernel, by decide +kernel, by decide +kernel⟩, by decide +kernel⟩
theorem d_jS_coder_0 : decode b_jS_coder 0 = .ok (.getstatic 38, 3) := by decide +kernel
theorem d_jS_coder_3 : decode b_jS_coder 3 = .ok (.ifCond .eq 10, 3) := by decide +kernel
theorem d_jS_coder_6 : decode b_jS_coder 6 = .ok (.aload_n 0, 1) := by decide +kernel
theorem d_jS_coder_7 : decode b_jS_coder 7 = .ok (.getfield 15, 3) := by decide +kernel
theorem d_jS_coder_10 : decode b_jS_coder 10 = .ok (.goto 4, 3) := by decide +kernel
theorem d_jS_coder_13 : decode b_jS_coder 13 = .ok (.iconst 1, 1) := by decide +kernel
theorem d_jS_coder_14 : decode b_jS_coder 14 = .ok (.ireturn, 1) := by decide +kernel
abbrev b_jS_charAt : ByteArray := prog_18_method_56_code
def y_jS_charAt : MethodName := ⟨R_jS, "charAt", "(I)C"⟩
theorem m_jS_charAt : gh_mv y_jS_charAt b_jS_charAt 2 (some .char) 1 := ⟨g_in 487 (by decide +kernel) (by decide +kernel), g_in 485 (by decide +kernel) (by decide +kernel), g_in 486 (by decide +kernel) (by decide +kernel), g_in 17 (by decide +kernel) (by decide +kernel), ⟨by decide +kernel, by decide +kernel, by decide +kernel⟩, by decide +kernel⟩
theorem d_jS_charAt_0 : decode b_jS_charAt 0 = .ok (.aload_n 0, 1) := by decide +kernel
theorem d_jS_charAt_1 : decode b_jS_charAt 1 = .ok (.invokevirtual 492, 3) := by decide +kernel
theorem d_jS_charAt_4 : decode b_jS_charAt 4 = .ok (.ifCond .eq 12, 3) := by decide +kernel
theorem d_jS_charAt_7 : decode b_jS_charAt 7 = .ok (.aload_n 0, 1) := by decide +kernel
theorem d_jS_charAt_8 : decode b_jS_charAt 8 = .ok (.getfield 9, 3) := by decide +kernel
theorem d_jS_charAt_11 : decode b_jS_charAt 11 = .ok (.iload_n 1, 1) := by decide +kernel
theorem d_jS_charAt_12 : decode b_jS_charAt 12 = .ok (.invokestatic 495, 3) := by decide +kernel
theorem d_jS_charAt_15 : decode b_jS_charAt 15 = .ok (.ireturn, 1) := by decide +kernel
abbrev b_jS_isLatin1 : ByteArray := prog_18_method_154_code
def y_jS_isLatin1 : MethodName := ⟨R_jS, "isLatin1", "()Z"⟩
theorem m_jS_isLatin1 : gh_mv y_jS_isLatin1 b_jS_isLatin1 1 (some .boolean) 0 := ⟨g_in 491 (by decide +kernel) (by decide +kernel), g_in 489 (by decide +kernel) (by decide +kernel), g_in 490 (by decide +kernel) (by decide +kernel), g_in 17 (by decide +kernel) (by decide +kernel), ⟨by decide +kernel, by decide +kernel, by decide +kernel⟩, by decide +kernel⟩
theorem d_jS_isLatin1_0 : decode b_jS_isLatin1 0 = .ok (.getstatic 38, 3) := by decide +kernel
theorem d_jS_isLatin1_3 : decode b_jS_isLatin1 3 = .ok (.ifCond .eq 14, 3) := by decide +kernel
theorem d_jS_isLatin1_6 : decode b_jS_isLatin1 6 = .ok (.aload_n 0, 1) := by decide +kernel
theorem d_jS_isLatin1_7 : decode b_jS_isLatin1 7 = .ok (.getfield 15, 3) := by decide +kernel
theorem d_jS_isLatin1_10 : decode b_jS_isLatin1 10 = .ok (.ifCond .ne 7, 3) := by decide +kernel
theorem d_jS_isLatin1_13 : decode b_jS_isLatin1 13 = .ok (.iconst 1, 1) := by decide +kernel
theorem d_jS_isLatin1_14 : decode b_jS_isLatin1 14 = .ok (.goto 4, 3) := by decide +kernel
theorem d_jS_isLatin1_17 : decode b_jS_isLatin1 17 = .ok (.iconst 0, 1) := by decide +kernel
theorem d_jS_isLatin1_18 : decode b_jS_isLatin1 18 = .ok (.ireturn, 1) := by decide +kernel
abbrev b_jL_charAt : ByteArray := prog_19_method_2_code
def y_jL_charAt : MethodName := ⟨R_jL, "charAt", "([BI)C"⟩
theorem m_jL_charAt : gh_ms y_jL_charAt b_jL_charAt 2 (some .char) 2 := ⟨g_in 494 (by decide +kernel) (by decide +kernel), g_in 493 (by decide +kernel) (by decide +kernel), g_in 18 (by decide +kernel) (by decide +kernel), ⟨by decide +kernel, by decide +kernel, by decide +kernel⟩, by decide +kernel⟩
theorem d_jL_charAt_0 : decode b_jL_charAt 0 = .ok (.iload_n 1, 1) := by decide +kernel
theorem d_jL_charAt_1 : decode b_jL_charAt 1 = .ok (.aload_n 0, 1) := by decide +kernel
theorem d_jL_charAt_2 : decode b_jL_charAt 2 = .ok (.arraylength, 1) := by decide +kernel
theorem d_jL_charAt_3 : decode b_jL_charAt 3 = .ok (.invokestatic 9, 3) := by decide +kernel
theorem d_jL_charAt_6 : decode b_jL_charAt 6 = .ok (.aload_n 0, 1) := by decide +kernel
theorem d_jL_charAt_7 : decode b_jL_charAt 7 = .ok (.iload_n 1, 1) := by decide +kernel
theorem d_jL_charAt_8 : decode b_jL_charAt 8 = .ok (.baload, 1) := by decide +kernel
theorem d_jL_charAt_9 : decode b_jL_charAt 9 = .ok (.sipush 255, 3) := by decide +kernel
theorem d_jL_charAt_12 : decode b_jL_charAt 12 = .ok (.iand, 1) := by decide +kernel
theorem d_jL_charAt_13 : decode b_jL_charAt 13 = .ok (.i2c, 1) := by decide +kernel
theorem d_jL_charAt_14 : decode b_jL_charAt 14 = .ok (.ireturn, 1) := by decide +kernel
abbrev b_jS_checkIndex : ByteArray := prog_18_method_155_code
def y_jS_checkIndex : MethodName := ⟨R_jS, "checkIndex", "(II)V"⟩
theorem m_jS_checkIndex : gh_ms y_jS_checkIndex b_jS_checkIndex 2 none 2 := ⟨g_in 497 (by decide +kernel) (by decide +kernel), g_in 496 (by decide +kernel) (by decide +kernel), g_in 17 (by decide +kernel) (by decide +kernel), ⟨by decide +kernel, by decide +kernel, by decide +kernel⟩, by decide +kernel⟩
theorem d_jS_checkIndex_0 : decode b_jS_checkIndex 0 = .ok (.iload_n 0, 1) := by decide +kernel
theorem d_jS_checkIndex_1 : decode b_jS_checkIndex 1 = .ok (.iload_n 1, 1) := by decide +kernel
theorem d_jS_checkIndex_2 : decode b_jS_checkIndex 2 = .ok (.getstatic 1053, 3) := by decide +kernel
theorem d_jS_checkIndex_5 : decode b_jS_checkIndex 5 = .ok (.invokestatic 1059, 3) := by decide +kernel
theorem d_jS_checkIndex_8 : decode b_jS_checkIndex 8 = .ok (.pop, 1) := by decide +kernel
theorem d_jS_checkIndex_9 : decode b_jS_checkIndex 9 = .ok (.return_, 1) := by decide +kernel
abbrev b_jP_checkIndex : ByteArray := prog_24_method_11_code
def y_jP_checkIndex : MethodName := ⟨R_jP, "checkIndex", "(IILjava/util/function/BiFunction;)I"⟩
theorem m_jP_checkIndex : gh_ms y_jP_checkIndex b_jP_checkIndex 3 (some .int) 3 := ⟨g_in 502 (by decide +kernel) (by decide +kernel), g_in 501 (by decide +kernel) (by decide +kernel), g_in 19 (by decide +kernel) (by decide +kernel), ⟨by decide +kernel, by decide +kernel, by decide +kernel⟩, by decide +kernel⟩
theorem d_jP_checkIndex_0 : decode b_jP_checkIndex 0 = .ok (.iload_n 0, 1) := by decide +kernel
theorem d_jP_checkIndex_1 : decode b_jP_checkIndex 1 = .ok (.ifCond .lt 8, 3) := by decide +kernel
theorem d_jP_checkIndex_4 : decode b_jP_checkIndex 4 = .ok (.iload_n 0, 1) := by decide +kernel
theorem d_jP_checkIndex_5 : decode b_jP_checkIndex 5 = .ok (.iload_n 1, 1) := by decide +kernel
theorem d_jP_checkIndex_6 : decode b_jP_checkIndex 6 = .ok (.if_icmp .lt 10, 3) := by decide +kernel
theorem d_jP_checkIndex_16 : decode b_jP_checkIndex 16 = .ok (.iload_n 0, 1) := by decide +kernel
theorem d_jP_checkIndex_17 : decode b_jP_checkIndex 17 = .ok (.ireturn, 1) := by decide +kernel
theorem l_Re_144 : Cond.methodLink "QueryMachine$Reader" 144 y_jS_length ∈ g_tbl := g_in 474 (by decide +kernel) (by decide +kernel)
theorem l_jS_335 : Cond.methodLink "java/lang/String" 335 y_jS_coder ∈ g_tbl := g_in 478 (by decide +kernel) (by decide +kernel)
theorem f_jS_38 : Cond.fieldLink "java/lang/String" 38 "java/lang/String" "COMPACT_STRINGS" "Z" ∈ g_tbl := g_in 482 (by decide +kernel) (by decide +kernel)
theorem l_Re_149 : Cond.methodLink "QueryMachine$Reader" 149 y_jS_charAt ∈ g_tbl := g_in 484 (by decide +kernel) (by decide +kernel)
theorem l_jS_492 : Cond.methodLink "java/lang/String" 492 y_jS_isLatin1 ∈ g_tbl := g_in 488 (by decide +kernel) (by decide +kernel)
theorem l_jS_495 : Cond.methodLink "java/lang/String" 495 y_jL_charAt ∈ g_tbl := g_in 492 (by decide +kernel) (by decide +kernel)
theorem l_jL_9 : Cond.methodLink "java/lang/StringLatin1" 9 y_jS_checkIndex ∈ g_tbl := g_in 495 (by decide +kernel) (by decide +kernel)
theorem f_jS_1053 : Cond.fieldLink "java/lang/String" 1053 "jdk/internal/util/Preconditions" "SIOOBE_FORMATTER" "Ljava/util/function/BiFunction;" ∈ g_tbl := g_in 498 (by decide +kernel) (by decide +kernel)
theorem l_jS_1059 : Cond.methodLink "java/lang/String" 1059 y_jP_checkIndex ∈ g_tbl := g_in 500 (by decide +kernel) (by decide +kernel)
theorem l_Wr_80 : Cond.methodLink "QueryMachine$Writer" 80 y_jS_length ∈ g_tbl := g_in 895 (by decide +kernel) (by decide +kernel)
theorem l_Wr_85 : Cond.methodLink "QueryMachine$Writer" 85 y_jS_charAt ∈ g_tbl := g_in 896 (by decide +kernel) (by decide +kernel)
theorem f_jS_9 : Cond.fieldLink "java/lang/String" 9 "java/lang/String" "value" "[B" ∈ g_tbl := g_in 1452 (by decide +kernel) (by decide +kernel)
theorem f_jS_15 : Cond.fieldLink "java/lang/String" 15 "java/lang/String" "coder" "B" ∈ g_tbl := g_in 1453 (by decide +kernel) (by decide +kernel)
theorem gs_min_l : Cond.methodLink R_Re 33 Lib.Math.min.name ∈ g_tbl := g_in 450 (by decide +kernel) (by decide +kernel)
theorem gs_min_s : Cond.static Lib.Math.min.name ∈ g_tbl := g_in 451 (by decide +kernel) (by decide +kernel)
theorem gs_math : Cond.initialized "java/lang/Math" ∈ g_tbl := g_in 16 (by decide +kernel) (by decide +kernel)
theorem gs_abs_l : Cond.methodLink R_Wr 74 Lib.Math.abs.name ∈ g_tbl := g_in 908 (by decide +kernel) (by decide +kernel)
theorem gs_abs_s : Cond.static Lib.Math.abs.name ∈ g_tbl := g_in 909 (by decide +kernel) (by decide +kernel)
theorem gs_min_c : Cond.code Lib.Math.min.name Lib.Math.min.code 2 (some .int) ∈ g_tbl := g_in 452 (by decide +kernel) (by decide +kernel)
theorem gs_abs_c : Cond.code Lib.Math.abs.name Lib.Math.abs.code 1 (some .int) ∈ g_tbl := g_in 910 (by decide +kernel) (by decide +kernel)
/-- the constants: null, false, true -/
def sc_b : List (List Int32) := [[110, 117, 108, 108], [102, 97, 108, 115, 101], [116, 114, 117, 101]]
def sc_n (i : Nat) : Nat := ([4, 5, 4] : List Nat).getD i 0
def sc_c (i k : Nat) : Int32 := (sc_b.getD i []).getD k 0
theorem sc_n5 (i : Nat) : sc_n i ≤ 5 := by
  unfold sc_n
  match i with
  | 0 => decide
  | 1 => decide
  | 2 => decide
  | n + 3 => simp
theorem sc_ch : ∀ i, i < 3 → ∀ k, k < sc_n i → (((sc_c i k) &&& 255).toUInt32 % 65536).toInt32 = sc_c i k ∧ narrow .char (.int (sc_c i k)) = .int (sc_c i k) := by decide +kernel
section GS
variable {p : Program} {l : Launch} {e : Env} {R : Room} {s : State} {m : MethodId} {args : Array Value} {below : List Frame} {meth : Method} {c : Code} {H : Heap} {locs : List Loc} {cells slots : Nat} {Q : State → Prop}
variable {cc : ByteArray} {pc : Nat} {ls : Array Slot} {rest : List Value} {A : Nat → Prop} {E : gh_E} {own : String} {nL : Nat} {f : gh_F}
theorem gs_S (C : gh_C E A p s m args c cc own nL) : vk_S 3 [4, 5, 4] [[110, 117, 108, 108], [102, 97, 108, 115, 101], [116, 114, 117, 101]] (fun i => E.2.2.2 (2 + i)) (fun i => E.2.2.2 (5 + i)) A s s.heap := C.2.2.2.2.2.2.2.1.2.2.2.2.1.narrow C.2.2.2.2.2.2.2.2.2
/-- a call on a constant -/
theorem gs_call (C : gh_C E A p s m args c cc own nL) (V : gh_V E A f s H locs) (hls : ls.size = nL) {y : MethodName} {b : ByteArray} {n k i : Nat} {ret : Option FieldType} (M : gh_mv y b n ret k) {index : Nat} (hlink : Cond.methodLink own index y ∈ g_tbl) {rm : Room} {post : Option Value → gh_F → Prop} {As : List Value} (hM : gh_M l y b n ret E H.size (.ref (E.2.2.2 (2 + i)) :: As) f rm post) (hk : As.length = k) (hi : i < 3) (hy : y.cls = "java/lang/String")
    (hR : rm.frames + 1 ≤ R.frames ∧ 8 + (n + 11) + rm.locals ≤ R.locals) (hf : cells + rm.cells ≤ R.cells ∧ slots + rm.slots ≤ R.slots) (hst : (rest.map fun v => v.category).sum ≤ 8) {st0 : List Value} (hs0 : st0 = As.reverse ++ .ref (E.2.2.2 (2 + i)) :: rest) (hdg : decode cc pc = .ok (.invokevirtual index, 3))
    (kk : ∀ (r : Option Value) (f' : gh_F) (H1 : Heap) (locs1 : List Loc), post r f' → gh_V E A f' s H1 locs1 → W p l e R s m args below meth c H1 locs1 (cells + rm.cells) (slots + rm.slots) Q (F0 m (pc + 3) ls (r.toList ++ rest))) : W p l e R s m args below meth c H locs cells slots Q (F0 m pc ls st0) := by
  obtain ⟨m1, m2, m3, m4, m5, m6⟩ := M
  have hrv : ∃ cell : Cell, H[E.2.2.2 (2 + i)]? = some cell ∧ cell.vm.isStatics = false ∧ s.vm.findClass y.cls = some cell.cls := by rw [hy]; exact vk_recv (adK := fun i => E.2.2.2 (2 + i)) (i := i) (gs_S C) hi V.2
  refine gh_after (va_runV (Ts := g_tbl) (C := y.cls) (b := E.2.2.2 (2 + i)) (As := As) ⟨C.1, C.2.1, C.2.2.1, C.2.2.2.1, C.2.2.2.2.1⟩ hM (cwV (ws' := g_tbl) k C.2.2.2.2.1 (gh_good ?_) rfl rfl rfl ⟨rfl, m5⟩ hR) ⟨gh_blind E f _ _, hrv, fun U hU hW => ⟨rfl, by rw [hU], gh_pre C.2.2.2.2.2.2.2.2.2 C.2.2.2.2.2.1 C.2.2.2.2.2.2.1 C.2.2.2.2.2.2.2.1 V U hU hW⟩⟩ rfl hk hls hs0 (lv_room hst) hdg hf) C V kk
  intro w hw
  simp only [wsV, List.mem_append, List.mem_cons, List.not_mem_nil, or_false] at hw
  rcases hw with (rfl | rfl | rfl | rfl) | rfl | hw
  · exact hlink
  · exact m2
  · exact m3
  · exact m4
  · exact m1
  · exact hw
theorem gs_cmp (C : gh_C E A p s m args c cc R_jS nL) (V : gh_V E A f s H locs) (hdg : decode cc pc = .ok (.getstatic 38, 3))
    (kk : W p l e R s m args below meth c H locs cells slots Q (F0 m (pc + 3) ls (.int 1 :: rest))) : W p l e R s m args below meth c H locs cells slots Q (F0 m pc ls rest) :=
  va_gets C.1 C.2.1 (C.2.2.2.2.2.2.2.1.2.2.2.2.2.2.2.2.2.2.2.2.2.2.2.1.narrow C.2.2.2.2.2.2.2.2.2) V.2 C.2.2.2.1 (C.2.2.2.2.1 _ f_jS_38) (fun _ h => h) hdg kk
theorem gs_fmt (C : gh_C E A p s m args c cc R_jS nL) (V : gh_V E A f s H locs) (hdg : decode cc pc = .ok (.getstatic 1053, 3))
    (k1 : W p l e R s m args below meth c H locs cells slots Q (F0 m (pc + 3) ls (.null :: rest))) (k2 : ∀ t, W p l e R s m args below meth c H locs cells slots Q (F0 m (pc + 3) ls (.ref t :: rest))) : W p l e R s m args below meth c H locs cells slots Q (F0 m pc ls rest) := by
  rcases C.2.2.2.2.2.2.2.1.2.2.2.2.2.2.2.2.2.2.2.2.2.2.2.2 with h | ⟨t, h⟩
  · exact va_gets C.1 C.2.1 (h.narrow C.2.2.2.2.2.2.2.2.2) V.2 C.2.2.2.1 (C.2.2.2.2.1 _ f_jS_1053) (fun _ h => h) hdg k1
  · exact va_gets C.1 C.2.1 (h.narrow C.2.2.2.2.2.2.2.2.2) V.2 C.2.2.2.1 (C.2.2.2.2.1 _ f_jS_1053) (fun _ h => h) hdg (k2 t)
theorem gs_coder (C : gh_C E A p s m args c cc R_jS nL) (V : gh_V E A f s H locs) {i : Nat} (hi : i < 3) (hdg : decode cc pc = .ok (.getfield 15, 3))
    (kk : W p l e R s m args below meth c H locs cells slots Q (F0 m (pc + 3) ls (.int 0 :: rest))) : W p l e R s m args below meth c H locs cells slots Q (F0 m pc ls (.ref (E.2.2.2 (2 + i)) :: rest)) :=
  vk_getf C.1 C.2.1 ((gs_S C).1 i hi).2.1 V.2 C.2.2.2.1 (C.2.2.2.2.1 _ f_jS_15) (fun _ h => h) hdg kk
theorem gs_value (C : gh_C E A p s m args c cc R_jS nL) (V : gh_V E A f s H locs) {i : Nat} (hi : i < 3) (hdg : decode cc pc = .ok (.getfield 9, 3))
    (kk : W p l e R s m args below meth c H locs cells slots Q (F0 m (pc + 3) ls (.ref (E.2.2.2 (5 + i)) :: rest))) : W p l e R s m args below meth c H locs cells slots Q (F0 m pc ls (.ref (E.2.2.2 (2 + i)) :: rest)) :=
  vk_getf C.1 C.2.1 ((gs_S C).1 i hi).2.2.1 V.2 C.2.2.2.1 (C.2.2.2.2.1 _ f_jS_9) (fun _ h => h) hdg kk
theorem gs_len (C : gh_C E A p s m args c cc own nL) (V : gh_V E A f s H locs) {i : Nat} (hi : i < 3) (hdg : decode cc pc = .ok (.arraylength, 1))
    (kk : W p l e R s m args below meth c H locs cells slots Q (F0 m (pc + 1) ls (.int (nI (sc_n i)) :: rest))) : W p l e R s m args below meth c H locs cells slots Q (F0 m pc ls (.ref (E.2.2.2 (5 + i)) :: rest)) :=
  va_tlen C.1 C.2.1 ((gs_S C).1 i hi).2.2.2 V.2 rfl hdg kk
theorem gs_at (C : gh_C E A p s m args c cc own nL) (V : gh_V E A f s H locs) {i k : Nat} (hi : i < 3) (hk : k < sc_n i) (hdg : decode cc pc = .ok (.baload, 1))
    (kk : W p l e R s m args below meth c H locs cells slots Q (F0 m (pc + 1) ls (.int (sc_c i k) :: rest))) : W p l e R s m args below meth c H locs cells slots Q (F0 m pc ls (.int (nI k) :: .ref (E.2.2.2 (5 + i)) :: rest)) := by
  have h5 := sc_n5 i
  exact va_tb C.1 C.2.1 ((gs_S C).1 i hi).2.2.2 V.2 (vp_in_nI hk (by show sc_n i < 2 ^ 31; omega)) (by rw [nI_clamp (by omega)]; rfl) hdg kk
theorem gs_min (C : gh_C E A p s m args c cc R_Re nL) (hls : ls.size = nL) {x y : Nat} (h : x ≤ y) (hy : y < 2 ^ 31) (hR : 1 ≤ R.frames ∧ 21 ≤ R.locals) (hst : (rest.map fun v => v.category).sum ≤ 8) (hf : cells ≤ R.cells ∧ slots ≤ R.slots) (hdg : decode cc pc = .ok (.invokestatic 33, 3))
    (kk : W p l e R s m args below meth c H locs cells slots Q (F0 m (pc + 3) ls (.int (nI x) :: rest))) : W p l e R s m args below meth c H locs cells slots Q (F0 m pc ls (.int (nI y) :: .int (nI x) :: rest)) :=
  va_mmin C.1 C.2.1 (C.2.2.1.trans hls.symm) C.2.2.2.1 (C.2.2.2.2.1 _ gs_min_l) (C.2.2.2.2.1 _ gs_min_s) (C.2.2.2.2.1 _ gs_math) (C.2.2.2.2.1 _ gs_min_c) hR.1 (by omega) hf.1 hf.2 hdg (by rw [if_neg (nI_nlt h hy)]; exact kk)
theorem gs_abs (C : gh_C E A p s m args c cc R_Wr nL) (hls : ls.size = nL) {x : Int32} (hR : 1 ≤ R.frames ∧ 21 ≤ R.locals) (hst : (rest.map fun v => v.category).sum ≤ 8) (hf : cells ≤ R.cells ∧ slots ≤ R.slots) (hdg : decode cc pc = .ok (.invokestatic 74, 3))
    (kk : W p l e R s m args below meth c H locs cells slots Q (F0 m (pc + 3) ls (.int (if 0 ≤ x then x else 0 - x) :: rest))) : W p l e R s m args below meth c H locs cells slots Q (F0 m pc ls (.int x :: rest)) :=
  va_mabs C.1 C.2.1 (C.2.2.1.trans hls.symm) C.2.2.2.1 (C.2.2.2.2.1 _ gs_abs_l) (C.2.2.2.2.1 _ gs_abs_s) (C.2.2.2.2.1 _ gs_math) (C.2.2.2.2.1 _ gs_abs_c) hR.1 (by omega) hf.1 hf.2 hdg kk
theorem gs_ldcRe (C : gh_C E A p s m args c cc R_Re nL) {i k : Nat} {tx : String} (h : vk_R R_Re k tx (E.2.2.2 (2 + i)) s) (hdg : decode cc pc = .ok (.ldc k, 2))
    (kk : W p l e R s m args below meth c H locs cells slots Q (F0 m (pc + 2) ls (.ref (E.2.2.2 (2 + i)) :: rest))) : W p l e R s m args below meth c H locs cells slots Q (F0 m pc ls rest) := va_ldcS C.1 C.2.1 C.2.2.2.1 h hdg kk
theorem gs_ldcWr (C : gh_C E A p s m args c cc R_Wr nL) {i k : Nat} {tx : String} (h : vk_R R_Wr k tx (E.2.2.2 (2 + i)) s) (hdg : decode cc pc = .ok (.ldc k, 2))
    (kk : W p l e R s m args below meth c H locs cells slots Q (F0 m (pc + 2) ls (.ref (E.2.2.2 (2 + i)) :: rest))) : W p l e R s m args below meth c H locs cells slots Q (F0 m pc ls rest) := va_ldcS C.1 C.2.1 C.2.2.2.1 h hdg kk
theorem gs_K (C : gh_C E A p s m args c cc own nL) : vk_R R_Re 60 "null" (E.2.2.2 (2 + 0)) s ∧ vk_R R_Re 72 "false" (E.2.2.2 (2 + 1)) s ∧ vk_R R_Re 77 "true" (E.2.2.2 (2 + 2)) s ∧ vk_R R_Wr 33 "null" (E.2.2.2 (2 + 0)) s ∧ vk_R R_Wr 39 "false" (E.2.2.2 (2 + 1)) s ∧ vk_R R_Wr 41 "true" (E.2.2.2 (2 + 2)) s := C.2.2.2.2.2.2.2.1.2.2.2.2.2.1
end GS
set_option maxRecDepth 100000 in
set_option maxHeartbeats 4000000 in
theorem c_jS_coder (l : Launch) (E : gh_E) (sz : Nat) (f : gh_F) (i : Nat) (hi : i < 3) : gh_M l y_jS_coder b_jS_coder 1 (some .byte) E sz [.ref (E.2.2.2 (2 + i))] f { frames := 3, cells := 0, slots := 0, locals := 60 } (fun r g => r = some (.int 0) ∧ g = f) := by
  refine gh_open (by decide) (Nat.le_of_ble_eq_true rfl) ?_
  intro p e s m args below meth c A ls hAe C V hr hlocks hname hl
  have hx := C.1
  have hb := C.2.1
  have hl : lv_has ls 1 [(0, .ref (E.2.2.2 (2 + i)))] := hl
  refine gs_cmp C V d_jS_coder_0 ?_
  refine lv_if_eq (tgt := 13) hx hb d_jS_coder_3 (by decide) (fun c1 => absurd c1 (by decide)) (fun c1 => ?_)
  refine lv_aload_n hx hb d_jS_coder_6 rfl (lv_at hl 0 rfl) ?_
  refine gs_coder C V hi d_jS_coder_7 ?_
  refine lv_goto (tgt := 14) hx hb d_jS_coder_10 (by decide) ?_
  refine gh_retz hAe C V hr (by first | rfl | decide) hlocks d_jS_coder_14 (by first | decide | omega | (dsimp only; omega)) (by first | decide | omega | (dsimp only; omega)) ?_
  exact ⟨rfl, rfl⟩
set_option maxRecDepth 100000 in
set_option maxHeartbeats 4000000 in
theorem c_jS_isLatin1 (l : Launch) (E : gh_E) (sz : Nat) (f : gh_F) (i : Nat) (hi : i < 3) : gh_M l y_jS_isLatin1 b_jS_isLatin1 1 (some .boolean) E sz [.ref (E.2.2.2 (2 + i))] f { frames := 3, cells := 0, slots := 0, locals := 60 } (fun r g => r = some (.int 1) ∧ g = f) := by
  refine gh_open (by decide) (Nat.le_of_ble_eq_true rfl) ?_
  intro p e s m args below meth c A ls hAe C V hr hlocks hname hl
  have hx := C.1
  have hb := C.2.1
  have hl : lv_has ls 1 [(0, .ref (E.2.2.2 (2 + i)))] := hl
  refine gs_cmp C V d_jS_isLatin1_0 ?_
  refine lv_if_eq (tgt := 17) hx hb d_jS_isLatin1_3 (by decide) (fun c1 => absurd c1 (by decide)) (fun c1 => ?_)
  refine lv_aload_n hx hb d_jS_isLatin1_6 rfl (lv_at hl 0 rfl) ?_
  refine gs_coder C V hi d_jS_isLatin1_7 ?_
  refine lv_if_ne (tgt := 17) hx hb d_jS_isLatin1_10 (by decide) (fun c2 => absurd rfl c2) (fun c2 => ?_)
  refine lv_iconst (v := 1) hx hb d_jS_isLatin1_13 (by decide) ?_
  refine lv_goto (tgt := 18) hx hb d_jS_isLatin1_14 (by decide) ?_
  refine gh_retz hAe C V hr (by first | rfl | decide) hlocks d_jS_isLatin1_18 (by first | decide | omega | (dsimp only; omega)) (by first | decide | omega | (dsimp only; omega)) ?_
  exact ⟨rfl, rfl⟩
theorem sc_sh : ∀ i, i < 3 → nI (sc_n i) >>> ((0 : Int32) &&& 31) = nI (sc_n i) := by decide +kernel
set_option maxRecDepth 100000 in
set_option maxHeartbeats 4000000 in
theorem c_jS_length (l : Launch) (E : gh_E) (sz : Nat) (f : gh_F) (i : Nat) (hi : i < 3) : gh_M l y_jS_length b_jS_length 1 (some .int) E sz [.ref (E.2.2.2 (2 + i))] f { frames := 5, cells := 0, slots := 0, locals := 100 } (fun r g => r = some (.int (nI (sc_n i))) ∧ g = f) := by
  refine gh_open (by decide) (Nat.le_of_ble_eq_true rfl) ?_
  intro p e s m args below meth c A ls hAe C V hr hlocks hname hl
  have hx := C.1
  have hb := C.2.1
  have hl : lv_has ls 1 [(0, .ref (E.2.2.2 (2 + i)))] := hl
  refine lv_aload_n hx hb d_jS_length_0 rfl (lv_at hl 0 rfl) ?_
  refine gs_value C V hi d_jS_length_1 ?_
  refine gs_len C V hi d_jS_length_4 ?_
  refine lv_aload_n hx hb d_jS_length_5 rfl (lv_at hl 0 rfl) ?_
  refine gs_call C V hl.1 m_jS_coder l_jS_335 (c_jS_coder l E _ _ i hi) rfl hi rfl ⟨by first | decide | omega | (dsimp only; omega), by first | decide | omega | (dsimp only; omega)⟩ ⟨by first | decide | omega | (dsimp only; omega), by first | decide | omega | (dsimp only; omega)⟩ (Nat.le_of_ble_eq_true rfl) rfl d_jS_length_6 (fun r z9 H locs hp9 V1 => ?_)
  obtain ⟨rfl, he9⟩ := hp9
  rw [he9] at V1
  have V := V1
  refine W.eq (g2 := F0 m 9 ls [.int 0, .int (nI (sc_n i))]) rfl ?_
  refine lv_ishr hx hb d_jS_length_9 ?_
  rw [show nI (sc_n i) >>> ((0 : Int32) &&& 31) = nI (sc_n i) from (sc_sh i hi)]
  refine gh_reti hAe C V hr hlocks d_jS_length_10 (by first | decide | omega | (dsimp only; omega)) (by first | decide | omega | (dsimp only; omega)) ?_
  exact ⟨rfl, rfl⟩
set_option maxRecDepth 100000 in
set_option maxHeartbeats 4000000 in
theorem c_jP_checkN (l : Launch) (E : gh_E) (sz : Nat) (f : gh_F) (k nn : Nat) (hk : k < nn) (hn : nn < 1000) : gh_M l y_jP_checkIndex b_jP_checkIndex 3 (some .int) E sz [.int (nI k), .int (nI nn), .null] f { frames := 3, cells := 0, slots := 0, locals := 60 } (fun r g => r = some (.int (nI k)) ∧ g = f) := by
  refine gh_open (by decide) (Nat.le_of_ble_eq_true rfl) ?_
  intro p e s m args below meth c A ls hAe C V hr hlocks hname hl
  have hx := C.1
  have hb := C.2.1
  have hl : lv_has ls 3 [(0, .int (nI k)), (1, .int (nI nn)), (2, .null)] := hl
  refine lv_iload_n hx hb d_jP_checkIndex_0 rfl (lv_at hl 0 rfl) ?_
  refine lv_if_lt (tgt := 9) hx hb d_jP_checkIndex_1 (by decide) (fun c1 => absurd c1 (nI_pos (by omega))) (fun c1 => ?_)
  refine lv_iload_n hx hb d_jP_checkIndex_4 rfl (lv_at hl 0 rfl) ?_
  refine lv_iload_n hx hb d_jP_checkIndex_5 rfl (lv_at hl 1 rfl) ?_
  refine lv_icmp_lt (tgt := 16) hx hb d_jP_checkIndex_6 (by decide) (fun c2 => ?_) (fun c2 => absurd (nI_lt hk (by omega)) c2)
  refine lv_iload_n hx hb d_jP_checkIndex_16 rfl (lv_at hl 0 rfl) ?_
  refine gh_reti hAe C V hr hlocks d_jP_checkIndex_17 (by first | decide | omega | (dsimp only; omega)) (by first | decide | omega | (dsimp only; omega)) ?_
  exact ⟨rfl, rfl⟩
set_option maxRecDepth 100000 in
set_option maxHeartbeats 4000000 in
theorem c_jP_checkR (l : Launch) (E : gh_E) (sz : Nat) (f : gh_F) (k nn t : Nat) (hk : k < nn) (hn : nn < 1000) : gh_M l y_jP_checkIndex b_jP_checkIndex 3 (some .int) E sz [.int (nI k), .int (nI nn), .ref t] f { frames := 3, cells := 0, slots := 0, locals := 60 } (fun r g => r = some (.int (nI k)) ∧ g = f) := by
  refine gh_open (by decide) (Nat.le_of_ble_eq_true rfl) ?_
  intro p e s m args below meth c A ls hAe C V hr hlocks hname hl
  have hx := C.1
  have hb := C.2.1
  have hl : lv_has ls 3 [(0, .int (nI k)), (1, .int (nI nn)), (2, .ref t)] := hl
  refine lv_iload_n hx hb d_jP_checkIndex_0 rfl (lv_at hl 0 rfl) ?_
  refine lv_if_lt (tgt := 9) hx hb d_jP_checkIndex_1 (by decide) (fun c1 => absurd c1 (nI_pos (by omega))) (fun c1 => ?_)
  refine lv_iload_n hx hb d_jP_checkIndex_4 rfl (lv_at hl 0 rfl) ?_
  refine lv_iload_n hx hb d_jP_checkIndex_5 rfl (lv_at hl 1 rfl) ?_
  refine lv_icmp_lt (tgt := 16) hx hb d_jP_checkIndex_6 (by decide) (fun c2 => ?_) (fun c2 => absurd (nI_lt hk (by omega)) c2)
  refine lv_iload_n hx hb d_jP_checkIndex_16 rfl (lv_at hl 0 rfl) ?_
  refine gh_reti hAe C V hr hlocks d_jP_checkIndex_17 (by first | decide | omega | (dsimp only; omega)) (by first | decide | omega | (dsimp only; omega)) ?_
  exact ⟨rfl, rfl⟩
set_option maxRecDepth 100000 in
set_option maxHeartbeats 4000000 in
theorem c_jS_checkIndex (l : Launch) (E : gh_E) (sz : Nat) (f : gh_F) (k nn : Nat) (hk : k < nn) (hn : nn < 1000) : gh_M l y_jS_checkIndex b_jS_checkIndex 2 none E sz [.int (nI k), .int (nI nn)] f { frames := 5, cells := 0, slots := 0, locals := 100 } (fun r g => r = none ∧ g = f) := by
  refine gh_open (by decide) (Nat.le_of_ble_eq_true rfl) ?_
  intro p e s m args below meth c A ls hAe C V hr hlocks hname hl
  have hx := C.1
  have hb := C.2.1
  have hl : lv_has ls 2 [(0, .int (nI k)), (1, .int (nI nn))] := hl
  refine lv_iload_n hx hb d_jS_checkIndex_0 rfl (lv_at hl 0 rfl) ?_
  refine lv_iload_n hx hb d_jS_checkIndex_1 rfl (lv_at hl 1 rfl) ?_
  refine gs_fmt C V d_jS_checkIndex_2 ?_ (fun t => ?_)
  · refine gh_callS C V hl.1 m_jP_checkIndex l_jS_1059 (c_jP_checkN l E _ _ k nn hk hn) rfl ⟨by first | decide | omega | (dsimp only; omega), by first | decide | omega | (dsimp only; omega)⟩ ⟨by first | decide | omega | (dsimp only; omega), by first | decide | omega | (dsimp only; omega)⟩ (Nat.le_of_ble_eq_true rfl) rfl d_jS_checkIndex_5 (fun r z9 H locs hp9 V1 => ?_)
    obtain ⟨rfl, he9⟩ := hp9
    rw [he9] at V1
    have V := V1
    refine W.eq (g2 := F0 m 8 ls [.int (nI k)]) rfl ?_
    refine lv_pop hx hb d_jS_checkIndex_8 rfl ?_
    refine gh_retv hAe C V hr hlocks d_jS_checkIndex_9 (by first | decide | omega | (dsimp only; omega)) (by first | decide | omega | (dsimp only; omega)) ?_
    exact ⟨rfl, rfl⟩
  · refine gh_callS C V hl.1 m_jP_checkIndex l_jS_1059 (c_jP_checkR l E _ _ k nn t hk hn) rfl ⟨by first | decide | omega | (dsimp only; omega), by first | decide | omega | (dsimp only; omega)⟩ ⟨by first | decide | omega | (dsimp only; omega), by first | decide | omega | (dsimp only; omega)⟩ (Nat.le_of_ble_eq_true rfl) rfl d_jS_checkIndex_5 (fun r z9 H locs hp9 V1 => ?_)
    obtain ⟨rfl, he9⟩ := hp9
    rw [he9] at V1
    have V := V1
    refine W.eq (g2 := F0 m 8 ls [.int (nI k)]) rfl ?_
    refine lv_pop hx hb d_jS_checkIndex_8 rfl ?_
    refine gh_retv hAe C V hr hlocks d_jS_checkIndex_9 (by first | decide | omega | (dsimp only; omega)) (by first | decide | omega | (dsimp only; omega)) ?_
    exact ⟨rfl, rfl⟩
set_option maxRecDepth 100000 in
set_option maxHeartbeats 4000000 in
theorem c_jL_charAt (l : Launch) (E : gh_E) (sz : Nat) (f : gh_F) (i k : Nat) (hi : i < 3) (hk : k < sc_n i) : gh_M l y_jL_charAt b_jL_charAt 2 (some .char) E sz [.ref (E.2.2.2 (5 + i)), .int (nI k)] f { frames := 7, cells := 0, slots := 0, locals := 140 } (fun r g => r = some (.int (sc_c i k)) ∧ g = f) := by
  have h5 := sc_n5 i
  refine gh_open (by decide) (Nat.le_of_ble_eq_true rfl) ?_
  intro p e s m args below meth c A ls hAe C V hr hlocks hname hl
  have hx := C.1
  have hb := C.2.1
  have hl : lv_has ls 2 [(0, .ref (E.2.2.2 (5 + i))), (1, .int (nI k))] := hl
  refine lv_iload_n hx hb d_jL_charAt_0 rfl (lv_at hl 1 rfl) ?_
  refine lv_aload_n hx hb d_jL_charAt_1 rfl (lv_at hl 0 rfl) ?_
  refine gs_len C V hi d_jL_charAt_2 ?_
  refine gh_callS C V hl.1 m_jS_checkIndex l_jL_9 (c_jS_checkIndex l E _ _ k (sc_n i) hk (by omega)) rfl ⟨by first | decide | omega | (dsimp only; omega), by first | decide | omega | (dsimp only; omega)⟩ ⟨by first | decide | omega | (dsimp only; omega), by first | decide | omega | (dsimp only; omega)⟩ (Nat.le_of_ble_eq_true rfl) rfl d_jL_charAt_3 (fun r z9 H locs hp9 V1 => ?_)
  obtain ⟨rfl, he9⟩ := hp9
  rw [he9] at V1
  have V := V1
  refine W.eq (g2 := F0 m 6 ls []) rfl ?_
  refine lv_aload_n hx hb d_jL_charAt_6 rfl (lv_at hl 0 rfl) ?_
  refine lv_iload_n hx hb d_jL_charAt_7 rfl (lv_at hl 1 rfl) ?_
  refine gs_at C V hi hk d_jL_charAt_8 ?_
  refine lv_sipush (v := 255) hx hb d_jL_charAt_9 (by decide) ?_
  refine lv_iand hx hb d_jL_charAt_12 ?_
  refine lv_i2c hx hb d_jL_charAt_13 (sc_ch i hi k hk).1 ?_
  refine gh_retz hAe C V hr (sc_ch i hi k hk).2 hlocks d_jL_charAt_14 (by first | decide | omega | (dsimp only; omega)) (by first | decide | omega | (dsimp only; omega)) ?_
  exact ⟨rfl, rfl⟩
set_option maxRecDepth 100000 in
set_option maxHeartbeats 4000000 in
theorem c_jS_charAt (l : Launch) (E : gh_E) (sz : Nat) (f : gh_F) (i k : Nat) (hi : i < 3) (hk : k < sc_n i) : gh_M l y_jS_charAt b_jS_charAt 2 (some .char) E sz [.ref (E.2.2.2 (2 + i)), .int (nI k)] f { frames := 9, cells := 0, slots := 0, locals := 180 } (fun r g => r = some (.int (sc_c i k)) ∧ g = f) := by
  refine gh_open (by decide) (Nat.le_of_ble_eq_true rfl) ?_
  intro p e s m args below meth c A ls hAe C V hr hlocks hname hl
  have hx := C.1
  have hb := C.2.1
  have hl : lv_has ls 2 [(0, .ref (E.2.2.2 (2 + i))), (1, .int (nI k))] := hl
  refine lv_aload_n hx hb d_jS_charAt_0 rfl (lv_at hl 0 rfl) ?_
  refine gs_call C V hl.1 m_jS_isLatin1 l_jS_492 (c_jS_isLatin1 l E _ _ i hi) rfl hi rfl ⟨by first | decide | omega | (dsimp only; omega), by first | decide | omega | (dsimp only; omega)⟩ ⟨by first | decide | omega | (dsimp only; omega), by first | decide | omega | (dsimp only; omega)⟩ (Nat.le_of_ble_eq_true rfl) rfl d_jS_charAt_1 (fun r z9 H locs hp9 V1 => ?_)
  obtain ⟨rfl, he9⟩ := hp9
  rw [he9] at V1
  have V := V1
  refine W.eq (g2 := F0 m 4 ls [.int 1]) rfl ?_
  refine lv_if_eq (tgt := 16) hx hb d_jS_charAt_4 (by decide) (fun c1 => absurd c1 (by decide)) (fun c1 => ?_)
  refine lv_aload_n hx hb d_jS_charAt_7 rfl (lv_at hl 0 rfl) ?_
  refine gs_value C V hi d_jS_charAt_8 ?_
  refine lv_iload_n hx hb d_jS_charAt_11 rfl (lv_at hl 1 rfl) ?_
  refine gh_callS C V hl.1 m_jL_charAt l_jS_495 (c_jL_charAt l E _ _ i k hi hk) rfl ⟨by first | decide | omega | (dsimp only; omega), by first | decide | omega | (dsimp only; omega)⟩ ⟨by first | decide | omega | (dsimp only; omega), by first | decide | omega | (dsimp only; omega)⟩ (Nat.le_of_ble_eq_true rfl) rfl d_jS_charAt_12 (fun r z9 H locs hp9 V1 => ?_)
  obtain ⟨rfl, he9⟩ := hp9
  rw [he9] at V1
  have V := V1
  refine W.eq (g2 := F0 m 15 ls [.int (sc_c i k)]) rfl ?_
  refine gh_retz hAe C V hr (sc_ch i hi k hk).2 hlocks d_jS_charAt_15 (by first | decide | omega | (dsimp only; omega)) (by first | decide | omega | (dsimp only; omega)) ?_
  exact ⟨rfl, rfl⟩
