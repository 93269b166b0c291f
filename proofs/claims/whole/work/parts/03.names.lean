/-! Names, field tables, words by their places: printed by wip/whole/gen_names.py out of the claim. -/
def g_tbl : List Cond := lw_tbl.filter goodWord
theorem g_goodIn {c0 c : Cond} (h : c ∈ g_tbl) : GoodIn (c0 :: g_tbl) (c :: g_tbl) := by
  intro w hw
  have hm : w ∈ g_tbl := by
    rcases List.mem_cons.mp hw with e | e
    · rw [e]; exact h
    · exact e
  exact ⟨List.mem_cons_of_mem _ hm, good_of_word (List.mem_filter.mp hm).2⟩
theorem g_goodIn1 {c0 c : Cond} (h : c ∈ g_tbl) : GoodIn (c0 :: g_tbl) [c] := fun w hw => by
  rcases List.mem_singleton.mp hw with rfl
  exact ⟨List.mem_cons_of_mem _ h, good_of_word (List.mem_filter.mp h).2⟩
theorem g_in {w : Cond} (n : Nat) (h : tables_1[n]? = some w) (hg : goodWord w = true) : w ∈ g_tbl := List.mem_filter.mpr ⟨List.mem_append_right _ (List.mem_of_getElem? h), hg⟩
theorem g_inS {w : Cond} (n : Nat) (h : (k2_sels lw_privs)[n]? = some w) (hg : goodWord w = true) : w ∈ g_tbl := List.mem_filter.mpr ⟨List.mem_append_left _ (List.mem_of_getElem? h), hg⟩
abbrev R_QM : String := "QueryMachine"
def T_QM : u_T := fun k => match k with
  | 0 => ("QueryMachine", "nextText", "[C", true)
  | 1 => ("QueryMachine", "nextTextLength", "I", false)
  | 2 => ("QueryMachine", "reader", "LQueryMachine$Reader;", true)
  | 3 => ("QueryMachine", "writer", "LQueryMachine$Writer;", true)
  | 4 => ("QueryMachine", "runner", "LQueryMachine$Runner;", true)
  | 5 => ("QueryMachine", "theDocument", "LQueryMachine$Value;", false)
  | 6 => ("QueryMachine", "theQuery", "LQueryMachine$Query;", false)
  | _ => ("QueryMachine", "nextQuery", "LQueryMachine$Query;", false)
def t_QM : Nat → FieldType := fun k => match k with
  | 0 => .array (.char)
  | 1 => .int
  | 2 => .object "QueryMachine$Reader"
  | 3 => .object "QueryMachine$Writer"
  | 4 => .object "QueryMachine$Runner"
  | 5 => .object "QueryMachine$Value"
  | 6 => .object "QueryMachine$Query"
  | _ => .object "QueryMachine$Query"
theorem nm_QM : ∀ a, a < 8 → ∀ b, b < 8 → a ≠ b → (T_QM a).2.1 ≠ (T_QM b).2.1 := by decide +kernel
theorem ty_QM : ∀ k, k < 8 → parseFieldDescriptor (T_QM k).2.2.1 = some (t_QM k) := by decide +kernel
theorem gi_QM : ∀ w ∈ u_ws R_QM T_QM 8, w ∈ g_tbl := by
  intro w hw
  obtain ⟨k, hk, rfl⟩ := List.mem_map.mp hw
  have hk := List.mem_range.mp hk
  have hall : ∀ k, k < 8 → tables_1[([309, 311, 313, 315, 317, 319, 321, 323] : List Nat).getD k 0]? = some (u_lay R_QM T_QM k) ∧ goodWord (u_lay R_QM T_QM k) = true := by decide +kernel
  exact g_in _ (hall k hk).1 (hall k hk).2
abbrev R_Ga : String := "QueryMachine$Gathering"
def T_Ga : u_T := fun k => match k with
  | 0 => ("QueryMachine$Gathering", "keys", "[LQueryMachine$Value;", true)
  | 1 => ("QueryMachine$Gathering", "items", "[LQueryMachine$Value;", true)
  | _ => ("QueryMachine$Gathering", "size", "I", false)
def t_Ga : Nat → FieldType := fun k => match k with
  | 0 => .array (.object "QueryMachine$Value")
  | 1 => .array (.object "QueryMachine$Value")
  | _ => .int
theorem nm_Ga : ∀ a, a < 3 → ∀ b, b < 3 → a ≠ b → (T_Ga a).2.1 ≠ (T_Ga b).2.1 := by decide +kernel
theorem ty_Ga : ∀ k, k < 3 → parseFieldDescriptor (T_Ga k).2.2.1 = some (t_Ga k) := by decide +kernel
theorem gi_Ga : ∀ w ∈ u_ws R_Ga T_Ga 3, w ∈ g_tbl := by
  intro w hw
  obtain ⟨k, hk, rfl⟩ := List.mem_map.mp hw
  have hk := List.mem_range.mp hk
  have hall : ∀ k, k < 3 → tables_1[([99, 101, 103] : List Nat).getD k 0]? = some (u_lay R_Ga T_Ga k) ∧ goodWord (u_lay R_Ga T_Ga k) = true := by decide +kernel
  exact g_in _ (hall k hk).1 (hall k hk).2
abbrev R_Qu : String := "QueryMachine$Query"
def T_Qu : u_T := fun k => match k with
  | 0 => ("QueryMachine$Query", "code", "[I", true)
  | 1 => ("QueryMachine$Query", "begins", "[I", true)
  | _ => ("QueryMachine$Query", "length", "I", false)
def t_Qu : Nat → FieldType := fun k => match k with
  | 0 => .array (.int)
  | 1 => .array (.int)
  | _ => .int
theorem nm_Qu : ∀ a, a < 3 → ∀ b, b < 3 → a ≠ b → (T_Qu a).2.1 ≠ (T_Qu b).2.1 := by decide +kernel
theorem ty_Qu : ∀ k, k < 3 → parseFieldDescriptor (T_Qu k).2.2.1 = some (t_Qu k) := by decide +kernel
theorem gi_Qu : ∀ w ∈ u_ws R_Qu T_Qu 3, w ∈ g_tbl := by
  intro w hw
  obtain ⟨k, hk, rfl⟩ := List.mem_map.mp hw
  have hk := List.mem_range.mp hk
  have hall : ∀ k, k < 3 → tables_1[([269, 271, 273] : List Nat).getD k 0]? = some (u_lay R_Qu T_Qu k) ∧ goodWord (u_lay R_Qu T_Qu k) = true := by decide +kernel
  exact g_in _ (hall k hk).1 (hall k hk).2
abbrev R_Re : String := "QueryMachine$Reader"
def T_Re : u_T := fun k => match k with
  | 0 => ("QueryMachine$Reader", "values", "LQueryMachine$Values;", true)
  | 1 => ("QueryMachine$Reader", "gatherings", "[LQueryMachine$Gathering;", true)
  | 2 => ("QueryMachine$Reader", "letters", "[C", true)
  | 3 => ("QueryMachine$Reader", "text", "[C", false)
  | 4 => ("QueryMachine$Reader", "length", "I", false)
  | 5 => ("QueryMachine$Reader", "at", "I", false)
  | _ => ("QueryMachine$Reader", "bad", "I", false)
def t_Re : Nat → FieldType := fun k => match k with
  | 0 => .object "QueryMachine$Values"
  | 1 => .array (.object "QueryMachine$Gathering")
  | 2 => .array (.char)
  | 3 => .array (.char)
  | 4 => .int
  | 5 => .int
  | _ => .int
theorem nm_Re : ∀ a, a < 7 → ∀ b, b < 7 → a ≠ b → (T_Re a).2.1 ≠ (T_Re b).2.1 := by decide +kernel
theorem ty_Re : ∀ k, k < 7 → parseFieldDescriptor (T_Re k).2.2.1 = some (t_Re k) := by decide +kernel
theorem gi_Re : ∀ w ∈ u_ws R_Re T_Re 7, w ∈ g_tbl := by
  intro w hw
  obtain ⟨k, hk, rfl⟩ := List.mem_map.mp hw
  have hk := List.mem_range.mp hk
  have hall : ∀ k, k < 7 → tables_1[([148, 150, 152, 154, 156, 158, 160] : List Nat).getD k 0]? = some (u_lay R_Re T_Re k) ∧ goodWord (u_lay R_Re T_Re k) = true := by decide +kernel
  exact g_in _ (hall k hk).1 (hall k hk).2
abbrev R_Ru : String := "QueryMachine$Runner"
def T_Ru : u_T := fun k => match k with
  | 0 => ("QueryMachine$Runner", "values", "LQueryMachine$Values;", true)
  | 1 => ("QueryMachine$Runner", "steps", "[LQueryMachine$Step;", true)
  | 2 => ("QueryMachine$Runner", "gatherings", "[LQueryMachine$Gathering;", true)
  | 3 => ("QueryMachine$Runner", "putOut", "[LQueryMachine$Value;", true)
  | 4 => ("QueryMachine$Runner", "query", "LQueryMachine$Query;", false)
  | 5 => ("QueryMachine$Runner", "begun", "I", false)
  | 6 => ("QueryMachine$Runner", "fuel", "I", false)
  | 7 => ("QueryMachine$Runner", "size", "I", false)
  | _ => ("QueryMachine$Runner", "ending", "I", false)
def t_Ru : Nat → FieldType := fun k => match k with
  | 0 => .object "QueryMachine$Values"
  | 1 => .array (.object "QueryMachine$Step")
  | 2 => .array (.object "QueryMachine$Gathering")
  | 3 => .array (.object "QueryMachine$Value")
  | 4 => .object "QueryMachine$Query"
  | 5 => .int
  | 6 => .int
  | 7 => .int
  | _ => .int
theorem nm_Ru : ∀ a, a < 9 → ∀ b, b < 9 → a ≠ b → (T_Ru a).2.1 ≠ (T_Ru b).2.1 := by decide +kernel
theorem ty_Ru : ∀ k, k < 9 → parseFieldDescriptor (T_Ru k).2.2.1 = some (t_Ru k) := by decide +kernel
theorem gi_Ru : ∀ w ∈ u_ws R_Ru T_Ru 9, w ∈ g_tbl := by
  intro w hw
  obtain ⟨k, hk, rfl⟩ := List.mem_map.mp hw
  have hk := List.mem_range.mp hk
  have hall : ∀ k, k < 9 → tables_1[([240, 242, 244, 246, 248, 250, 252, 254, 256] : List Nat).getD k 0]? = some (u_lay R_Ru T_Ru k) ∧ goodWord (u_lay R_Ru T_Ru k) = true := by decide +kernel
  exact g_in _ (hall k hk).1 (hall k hk).2
abbrev R_St : String := "QueryMachine$Step"
def T_St : u_T := fun k => match k with
  | 0 => ("QueryMachine$Step", "at", "I", false)
  | 1 => ("QueryMachine$Step", "depth", "I", false)
  | 2 => ("QueryMachine$Step", "it", "LQueryMachine$Value;", false)
  | 3 => ("QueryMachine$Step", "element", "LQueryMachine$Value;", false)
  | 4 => ("QueryMachine$Step", "first", "LQueryMachine$Step;", false)
  | 5 => ("QueryMachine$Step", "second", "LQueryMachine$Step;", false)
  | 6 => ("QueryMachine$Step", "given", "I", false)
  | 7 => ("QueryMachine$Step", "place", "I", false)
  | _ => ("QueryMachine$Step", "value", "LQueryMachine$Value;", false)
def t_St : Nat → FieldType := fun k => match k with
  | 0 => .int
  | 1 => .int
  | 2 => .object "QueryMachine$Value"
  | 3 => .object "QueryMachine$Value"
  | 4 => .object "QueryMachine$Step"
  | 5 => .object "QueryMachine$Step"
  | 6 => .int
  | 7 => .int
  | _ => .object "QueryMachine$Value"
theorem nm_St : ∀ a, a < 9 → ∀ b, b < 9 → a ≠ b → (T_St a).2.1 ≠ (T_St b).2.1 := by decide +kernel
theorem ty_St : ∀ k, k < 9 → parseFieldDescriptor (T_St k).2.2.1 = some (t_St k) := by decide +kernel
theorem gi_St : ∀ w ∈ u_ws R_St T_St 9, w ∈ g_tbl := by
  intro w hw
  obtain ⟨k, hk, rfl⟩ := List.mem_map.mp hw
  have hk := List.mem_range.mp hk
  have hall : ∀ k, k < 9 → tables_1[([206, 208, 210, 212, 214, 216, 218, 220, 222] : List Nat).getD k 0]? = some (u_lay R_St T_St k) ∧ goodWord (u_lay R_St T_St k) = true := by decide +kernel
  exact g_in _ (hall k hk).1 (hall k hk).2
abbrev R_Va : String := "QueryMachine$Value"
def T_Va : u_T := fun k => match k with
  | 0 => ("QueryMachine$Value", "kind", "I", true)
  | 1 => ("QueryMachine$Value", "number", "J", true)
  | 2 => ("QueryMachine$Value", "letters", "[C", true)
  | 3 => ("QueryMachine$Value", "keys", "[LQueryMachine$Value;", true)
  | 4 => ("QueryMachine$Value", "items", "[LQueryMachine$Value;", true)
  | 5 => ("QueryMachine$Value", "weight", "I", true)
  | _ => ("QueryMachine$Value", "height", "I", true)
def t_Va : Nat → FieldType := fun k => match k with
  | 0 => .int
  | 1 => .long
  | 2 => .array (.char)
  | 3 => .array (.object "QueryMachine$Value")
  | 4 => .array (.object "QueryMachine$Value")
  | 5 => .int
  | _ => .int
theorem nm_Va : ∀ a, a < 7 → ∀ b, b < 7 → a ≠ b → (T_Va a).2.1 ≠ (T_Va b).2.1 := by decide +kernel
theorem ty_Va : ∀ k, k < 7 → parseFieldDescriptor (T_Va k).2.2.1 = some (t_Va k) := by decide +kernel
theorem gi_Va : ∀ w ∈ u_ws R_Va T_Va 7, w ∈ g_tbl := by
  intro w hw
  obtain ⟨k, hk, rfl⟩ := List.mem_map.mp hw
  have hk := List.mem_range.mp hk
  have hall : ∀ k, k < 7 → tables_1[([71, 73, 75, 77, 79, 81, 83] : List Nat).getD k 0]? = some (u_lay R_Va T_Va k) ∧ goodWord (u_lay R_Va T_Va k) = true := by decide +kernel
  exact g_in _ (hall k hk).1 (hall k hk).2
abbrev R_Vs : String := "QueryMachine$Values"
def T_Vs : u_T := fun k => match k with
  | 0 => ("QueryMachine$Values", "nothing", "LQueryMachine$Value;", true)
  | 1 => ("QueryMachine$Values", "no", "LQueryMachine$Value;", true)
  | 2 => ("QueryMachine$Values", "yes", "LQueryMachine$Value;", true)
  | 3 => ("QueryMachine$Values", "noItems", "[LQueryMachine$Value;", true)
  | 4 => ("QueryMachine$Values", "alphabet", "[LQueryMachine$Value;", true)
  | _ => ("QueryMachine$Values", "gathering", "LQueryMachine$Gathering;", true)
def t_Vs : Nat → FieldType := fun k => match k with
  | 0 => .object "QueryMachine$Value"
  | 1 => .object "QueryMachine$Value"
  | 2 => .object "QueryMachine$Value"
  | 3 => .array (.object "QueryMachine$Value")
  | 4 => .array (.object "QueryMachine$Value")
  | _ => .object "QueryMachine$Gathering"
theorem nm_Vs : ∀ a, a < 6 → ∀ b, b < 6 → a ≠ b → (T_Vs a).2.1 ≠ (T_Vs b).2.1 := by decide +kernel
theorem ty_Vs : ∀ k, k < 6 → parseFieldDescriptor (T_Vs k).2.2.1 = some (t_Vs k) := by decide +kernel
theorem gi_Vs : ∀ w ∈ u_ws R_Vs T_Vs 6, w ∈ g_tbl := by
  intro w hw
  obtain ⟨k, hk, rfl⟩ := List.mem_map.mp hw
  have hk := List.mem_range.mp hk
  have hall : ∀ k, k < 6 → tables_1[([118, 120, 122, 124, 126, 128] : List Nat).getD k 0]? = some (u_lay R_Vs T_Vs k) ∧ goodWord (u_lay R_Vs T_Vs k) = true := by decide +kernel
  exact g_in _ (hall k hk).1 (hall k hk).2
abbrev R_Wr : String := "QueryMachine$Writer"
def T_Wr : u_T := fun k => match k with
  | 0 => ("QueryMachine$Writer", "digits", "[C", true)
  | 1 => ("QueryMachine$Writer", "wanted", "I", false)
  | 2 => ("QueryMachine$Writer", "found", "C", false)
  | _ => ("QueryMachine$Writer", "length", "I", false)
def t_Wr : Nat → FieldType := fun k => match k with
  | 0 => .array (.char)
  | 1 => .int
  | 2 => .char
  | _ => .int
theorem nm_Wr : ∀ a, a < 4 → ∀ b, b < 4 → a ≠ b → (T_Wr a).2.1 ≠ (T_Wr b).2.1 := by decide +kernel
theorem ty_Wr : ∀ k, k < 4 → parseFieldDescriptor (T_Wr k).2.2.1 = some (t_Wr k) := by decide +kernel
theorem gi_Wr : ∀ w ∈ u_ws R_Wr T_Wr 4, w ∈ g_tbl := by
  intro w hw
  obtain ⟨k, hk, rfl⟩ := List.mem_map.mp hw
  have hk := List.mem_range.mp hk
  have hall : ∀ k, k < 4 → tables_1[([175, 177, 179, 181] : List Nat).getD k 0]? = some (u_lay R_Wr T_Wr k) ∧ goodWord (u_lay R_Wr T_Wr k) = true := by decide +kernel
  exact g_in _ (hall k hk).1 (hall k hk).2
abbrev R_Mo : String := "QueryMachineModel"
def T_Mo : u_T := fun k => match k with
  | 0 => ("QueryMachineModel", "thrown", "I", false)
  | 1 => ("QueryMachineModel", "kind", "[I", true)
  | 2 => ("QueryMachineModel", "number", "[J", true)
  | 3 => ("QueryMachineModel", "length", "[I", true)
  | 4 => ("QueryMachineModel", "size", "[I", true)
  | 5 => ("QueryMachineModel", "height", "[I", true)
  | 6 => ("QueryMachineModel", "low", "[J", true)
  | 7 => ("QueryMachineModel", "middle", "[J", true)
  | 8 => ("QueryMachineModel", "high", "[J", true)
  | 9 => ("QueryMachineModel", "first", "[I", true)
  | 10 => ("QueryMachineModel", "pool", "[I", true)
  | 11 => ("QueryMachineModel", "nextValue", "I", false)
  | 12 => ("QueryMachineModel", "nextPool", "I", false)
  | 13 => ("QueryMachineModel", "origin", "[I", true)
  | 14 => ("QueryMachineModel", "items", "[I", true)
  | 15 => ("QueryMachineModel", "keys", "[I", true)
  | 16 => ("QueryMachineModel", "many", "I", false)
  | 17 => ("QueryMachineModel", "document", "I", false)
  | 18 => ("QueryMachineModel", "bad", "I", false)
  | 19 => ("QueryMachineModel", "text", "[I", true)
  | 20 => ("QueryMachineModel", "typed", "I", false)
  | 21 => ("QueryMachineModel", "at", "I", false)
  | 22 => ("QueryMachineModel", "openItems", "[I", true)
  | 23 => ("QueryMachineModel", "openKeys", "[I", true)
  | 24 => ("QueryMachineModel", "openCount", "[I", true)
  | 25 => ("QueryMachineModel", "openMembers", "[I", true)
  | 26 => ("QueryMachineModel", "openObject", "[Z", true)
  | 27 => ("QueryMachineModel", "building", "Z", false)
  | 28 => ("QueryMachineModel", "read", "I", false)
  | 29 => ("QueryMachineModel", "draft", "[I", true)
  | 30 => ("QueryMachineModel", "drafted", "I", false)
  | 31 => ("QueryMachineModel", "draftChild", "[I", true)
  | 32 => ("QueryMachineModel", "waits", "[I", true)
  | 33 => ("QueryMachineModel", "query", "[I", true)
  | 34 => ("QueryMachineModel", "child", "[I", true)
  | 35 => ("QueryMachineModel", "phase", "[I", true)
  | 36 => ("QueryMachineModel", "it", "[I", true)
  | 37 => ("QueryMachineModel", "element", "[I", true)
  | 38 => ("QueryMachineModel", "held", "[I", true)
  | 39 => ("QueryMachineModel", "latest", "[I", true)
  | 40 => ("QueryMachineModel", "index", "[I", true)
  | 41 => ("QueryMachineModel", "row", "[I", true)
  | 42 => ("QueryMachineModel", "deepValue", "[I", true)
  | 43 => ("QueryMachineModel", "deepAt", "[I", true)
  | 44 => ("QueryMachineModel", "path", "[I", true)
  | 45 => ("QueryMachineModel", "waiting", "I", false)
  | 46 => ("QueryMachineModel", "signal", "I", false)
  | 47 => ("QueryMachineModel", "given", "I", false)
  | 48 => ("QueryMachineModel", "fuel", "I", false)
  | 49 => ("QueryMachineModel", "ended", "I", false)
  | 50 => ("QueryMachineModel", "outputs", "[I", true)
  | 51 => ("QueryMachineModel", "count", "I", false)
  | 52 => ("QueryMachineModel", "level", "[I", true)
  | 53 => ("QueryMachineModel", "levelAt", "[I", true)
  | 54 => ("QueryMachineModel", "levels", "I", false)
  | 55 => ("QueryMachineModel", "written", "I", false)
  | 56 => ("QueryMachineModel", "wanted", "I", false)
  | 57 => ("QueryMachineModel", "shown", "I", false)
  | 58 => ("QueryMachineModel", "left", "[I", true)
  | _ => ("QueryMachineModel", "right", "[I", true)
def t_Mo : Nat → FieldType := fun k => match k with
  | 0 => .int
  | 1 => .array (.int)
  | 2 => .array (.long)
  | 3 => .array (.int)
  | 4 => .array (.int)
  | 5 => .array (.int)
  | 6 => .array (.long)
  | 7 => .array (.long)
  | 8 => .array (.long)
  | 9 => .array (.int)
  | 10 => .array (.int)
  | 11 => .int
  | 12 => .int
  | 13 => .array (.int)
  | 14 => .array (.int)
  | 15 => .array (.int)
  | 16 => .int
  | 17 => .int
  | 18 => .int
  | 19 => .array (.int)
  | 20 => .int
  | 21 => .int
  | 22 => .array (.int)
  | 23 => .array (.int)
  | 24 => .array (.int)
  | 25 => .array (.int)
  | 26 => .array (.boolean)
  | 27 => .boolean
  | 28 => .int
  | 29 => .array (.int)
  | 30 => .int
  | 31 => .array (.int)
  | 32 => .array (.int)
  | 33 => .array (.int)
  | 34 => .array (.int)
  | 35 => .array (.int)
  | 36 => .array (.int)
  | 37 => .array (.int)
  | 38 => .array (.int)
  | 39 => .array (.int)
  | 40 => .array (.int)
  | 41 => .array (.int)
  | 42 => .array (.int)
  | 43 => .array (.int)
  | 44 => .array (.int)
  | 45 => .int
  | 46 => .int
  | 47 => .int
  | 48 => .int
  | 49 => .int
  | 50 => .array (.int)
  | 51 => .int
  | 52 => .array (.int)
  | 53 => .array (.int)
  | 54 => .int
  | 55 => .int
  | 56 => .int
  | 57 => .int
  | 58 => .array (.int)
  | _ => .array (.int)
theorem nm_Mo : ∀ a, a < 60 → ∀ b, b < 60 → a ≠ b → (T_Mo a).2.1 ≠ (T_Mo b).2.1 := by decide +kernel
theorem ty_Mo : ∀ k, k < 60 → parseFieldDescriptor (T_Mo k).2.2.1 = some (t_Mo k) := by decide +kernel
theorem gi_Mo : ∀ w ∈ u_ws R_Mo T_Mo 60, w ∈ g_tbl := by
  intro w hw
  obtain ⟨k, hk, rfl⟩ := List.mem_map.mp hw
  have hk := List.mem_range.mp hk
  have hall : ∀ k, k < 60 → tables_1[([1015, 1017, 1019, 1021, 1023, 1025, 1027, 1029, 1031, 1033, 1035, 1037, 1039, 1041, 1043, 1045, 1047, 1049, 1051, 1053, 1055, 1057, 1059, 1061, 1063, 1065, 1067, 1069, 1071, 1073, 1075, 1077, 1079, 1081, 1083, 1085, 1087, 1089, 1091, 1093, 1095, 1097, 1099, 1101, 1103, 1105, 1107, 1109, 1111, 1113, 1115, 1117, 1119, 1121, 1123, 1125, 1127, 1129, 1131, 1133] : List Nat).getD k 0]? = some (u_lay R_Mo T_Mo k) ∧ goodWord (u_lay R_Mo T_Mo k) = true := by decide +kernel
  exact g_in _ (hall k hk).1 (hall k hk).2
def gh_cl : List vw_C := [(R_QM, T_QM, 8), (R_Ga, T_Ga, 3), (R_Qu, T_Qu, 3), (R_Re, T_Re, 7), (R_Ru, T_Ru, 9), (R_St, T_St, 9), (R_Va, T_Va, 7), (R_Vs, T_Vs, 6), (R_Wr, T_Wr, 4), (R_Mo, T_Mo, 60)]
theorem gc_QM : gh_cl[0]? = some (R_QM, T_QM, 8) := rfl
theorem gc_Ga : gh_cl[1]? = some (R_Ga, T_Ga, 3) := rfl
theorem gc_Qu : gh_cl[2]? = some (R_Qu, T_Qu, 3) := rfl
theorem gc_Re : gh_cl[3]? = some (R_Re, T_Re, 7) := rfl
theorem gc_Ru : gh_cl[4]? = some (R_Ru, T_Ru, 9) := rfl
theorem gc_St : gh_cl[5]? = some (R_St, T_St, 9) := rfl
theorem gc_Va : gh_cl[6]? = some (R_Va, T_Va, 7) := rfl
theorem gc_Vs : gh_cl[7]? = some (R_Vs, T_Vs, 6) := rfl
theorem gc_Wr : gh_cl[8]? = some (R_Wr, T_Wr, 4) := rfl
theorem gc_Mo : gh_cl[9]? = some (R_Mo, T_Mo, 60) := rfl
