/-! ===== BEGIN words of one list among another's, by their places ===== -/
theorem goodIn_r {big : List Cond} (ws : List Cond) (ps : List Nat) (hp : ws = ps.filterMap (fun i => big[i]?)) (h : ws.all goodWord = true) : GoodIn big ws := by
  intro w hw
  have h1 := List.all_eq_true.mp h w hw
  rw [hp] at hw
  obtain ⟨i, -, hi⟩ := List.mem_filterMap.mp hw
  have hm : w ∈ big := by first | exact List.mem_of_getElem? hi | exact List.getElem?_mem hi
  exact ⟨hm, good_of_word h1⟩
theorem goodIn_app {big a b : List Cond} (ha : GoodIn big a) (hb : GoodIn big b) : GoodIn big (a ++ b) := fun w h => (List.mem_append.mp h).elim (ha w) (hb w)
theorem goodIn_ca {big a b : List Cond} {c : Cond} (ha : GoodIn big (c :: a)) (hb : GoodIn big b) : GoodIn big (c :: (a ++ b)) := fun w h => (List.mem_cons.mp h).elim (fun e => ha w (List.mem_cons.mpr (Or.inl e))) (fun h => (List.mem_append.mp h).elim (fun h => ha w (List.mem_cons.mpr (Or.inr h))) (hb w))
theorem goodIn_sub {big ws : List Cond} (hm : ∀ w ∈ ws, w ∈ big) (h : ws.all goodWord = true) : GoodIn big ws := fun w hw => ⟨hm w hw, good_of_word (List.all_eq_true.mp h w hw)⟩
/-! ===== END ===== -/

/-! ===== BEGIN printed: names, fields, word lists, decode rows ===== -/
def RX0 : String := "LampsOfDissent$City"
def TX0 : u_T := fun k => match k with
  | 0 => ("LampsOfDissent$City", "start", "LLampsOfDissent$Moment;", true)
  | 1 => ("LampsOfDissent$City", "workHouse", "[I", true)
  | 2 => ("LampsOfDissent$City", "workNeed", "[I", true)
  | 3 => ("LampsOfDissent$City", "subjects", "[I", true)
  | 4 => ("LampsOfDissent$City", "houses", "I", false)
  | 5 => ("LampsOfDissent$City", "people", "I", false)
  | 6 => ("LampsOfDissent$City", "works", "I", false)
  | _ => ("LampsOfDissent$City", "told", "I", false)
def tyX0 : Nat → FieldType := fun k => match k with
  | 0 => .object "LampsOfDissent$Moment"
  | 1 => .array .int
  | 2 => .array .int
  | 3 => .array .int
  | 4 => .int
  | 5 => .int
  | 6 => .int
  | _ => .int
abbrev wsX00 : List Cond := u_ws RX0 TX0 8
theorem nmX0 : ∀ a, a < 8 → ∀ b, b < 8 → a ≠ b → (TX0 a).2.1 ≠ (TX0 b).2.1 := by decide +kernel
theorem tyX0_ok : ∀ k, k < 8 → parseFieldDescriptor (TX0 k).2.2.1 = some (tyX0 k) := by decide +kernel
abbrev cX0_init : ByteArray := prog_2_method_1_code
def yX0_init : MethodName := ⟨RX0, "<init>", "()V"⟩
abbrev cX0_clear : ByteArray := prog_2_method_2_code
def yX0_clear : MethodName := ⟨RX0, "clear", "()V"⟩
abbrev cX0_addPerson : ByteArray := prog_2_method_3_code
def yX0_addPerson : MethodName := ⟨RX0, "addPerson", "([I)Z"⟩
abbrev cX0_tellHouses : ByteArray := prog_2_method_4_code
def yX0_tellHouses : MethodName := ⟨RX0, "tellHouses", "(I)Z"⟩
abbrev cX0_addWork : ByteArray := prog_2_method_5_code
def yX0_addWork : MethodName := ⟨RX0, "addWork", "(II)Z"⟩
abbrev cX0_addSubjects : ByteArray := prog_2_method_6_code
def yX0_addSubjects : MethodName := ⟨RX0, "addSubjects", "(I)Z"⟩
abbrev cX0_canBeLaid : ByteArray := prog_2_method_7_code
def yX0_canBeLaid : MethodName := ⟨RX0, "canBeLaid", "()Z"⟩
abbrev cX0_talkedOf : ByteArray := prog_2_method_8_code
def yX0_talkedOf : MethodName := ⟨RX0, "talkedOf", "(LLampsOfDissent$Moment;)I"⟩
abbrev cX0_lightOfAll : ByteArray := prog_2_method_9_code
def yX0_lightOfAll : MethodName := ⟨RX0, "lightOfAll", "(LLampsOfDissent$Moment;I)I"⟩
abbrev cX0_worksLit : ByteArray := prog_2_method_10_code
def yX0_worksLit : MethodName := ⟨RX0, "worksLit", "(LLampsOfDissent$Moment;I)I"⟩
abbrev cX0_darkHouses : ByteArray := prog_2_method_11_code
def yX0_darkHouses : MethodName := ⟨RX0, "darkHouses", "(LLampsOfDissent$Moment;I)I"⟩
def RX1 : String := "LampsOfDissent$HomeSearch"
def TX1 : u_T := fun k => match k with
  | 0 => ("LampsOfDissent$HomeSearch", "lightOfTwo", "[I", true)
  | 1 => ("LampsOfDissent$HomeSearch", "chosen", "[I", true)
  | 2 => ("LampsOfDissent$HomeSearch", "lights", "[I", true)
  | 3 => ("LampsOfDissent$HomeSearch", "best", "[I", true)
  | 4 => ("LampsOfDissent$HomeSearch", "bestLit", "I", false)
  | _ => ("LampsOfDissent$HomeSearch", "bestMoved", "I", false)
def tyX1 : Nat → FieldType := fun k => match k with
  | 0 => .array .int
  | 1 => .array .int
  | 2 => .array .int
  | 3 => .array .int
  | 4 => .int
  | _ => .int
abbrev wsX10 : List Cond := u_ws RX1 TX1 6
theorem nmX1 : ∀ a, a < 6 → ∀ b, b < 6 → a ≠ b → (TX1 a).2.1 ≠ (TX1 b).2.1 := by decide +kernel
theorem tyX1_ok : ∀ k, k < 6 → parseFieldDescriptor (TX1 k).2.2.1 = some (tyX1 k) := by decide +kernel
abbrev cX1_init : ByteArray := prog_3_method_1_code
def yX1_init : MethodName := ⟨RX1, "<init>", "()V"⟩
abbrev cX1_search : ByteArray := prog_3_method_2_code
def yX1_search : MethodName := ⟨RX1, "search", "(LLampsOfDissent$City;LLampsOfDissent$Moment;)V"⟩
abbrev cX1_settle : ByteArray := prog_3_method_3_code
def yX1_settle : MethodName := ⟨RX1, "settle", "(LLampsOfDissent$HomeSearch;LLampsOfDissent$City;LLampsOfDissent$Moment;II)V"⟩
abbrev cX1_lightAdded : ByteArray := prog_3_method_4_code
def yX1_lightAdded : MethodName := ⟨RX1, "lightAdded", "(II)I"⟩
abbrev cX1_weigh : ByteArray := prog_3_method_5_code
def yX1_weigh : MethodName := ⟨RX1, "weigh", "(LLampsOfDissent$City;I)V"⟩
def RX2 : String := "LampsOfDissent$Moment"
def TX2 : u_T := fun k => match k with
  | 0 => ("LampsOfDissent$Moment", "kind", "[I", true)
  | 1 => ("LampsOfDissent$Moment", "opinions", "[I", true)
  | 2 => ("LampsOfDissent$Moment", "temper", "[I", true)
  | 3 => ("LampsOfDissent$Moment", "home", "[I", true)
  | 4 => ("LampsOfDissent$Moment", "foes", "[I", true)
  | 5 => ("LampsOfDissent$Moment", "hour", "I", false)
  | _ => ("LampsOfDissent$Moment", "rations", "I", false)
def tyX2 : Nat → FieldType := fun k => match k with
  | 0 => .array .int
  | 1 => .array .int
  | 2 => .array .int
  | 3 => .array .int
  | 4 => .array .int
  | 5 => .int
  | _ => .int
abbrev wsX20 : List Cond := u_ws RX2 TX2 7
theorem nmX2 : ∀ a, a < 7 → ∀ b, b < 7 → a ≠ b → (TX2 a).2.1 ≠ (TX2 b).2.1 := by decide +kernel
theorem tyX2_ok : ∀ k, k < 7 → parseFieldDescriptor (TX2 k).2.2.1 = some (tyX2 k) := by decide +kernel
abbrev cX2_init : ByteArray := prog_4_method_1_code
def yX2_init : MethodName := ⟨RX2, "<init>", "()V"⟩
abbrev cX2_clear : ByteArray := prog_4_method_2_code
def yX2_clear : MethodName := ⟨RX2, "clear", "()V"⟩
abbrev cX2_copy : ByteArray := prog_4_method_3_code
def yX2_copy : MethodName := ⟨RX2, "copy", "(LLampsOfDissent$Moment;)V"⟩
abbrev cX2_together : ByteArray := prog_4_method_4_code
def yX2_together : MethodName := ⟨RX2, "together", "(II)Z"⟩
abbrev cX2_quarrelOf : ByteArray := prog_4_method_5_code
def yX2_quarrelOf : MethodName := ⟨RX2, "quarrelOf", "(III)I"⟩
abbrev cX2_isFalsePair : ByteArray := prog_4_method_6_code
def yX2_isFalsePair : MethodName := ⟨RX2, "isFalsePair", "(II)Z"⟩
abbrev cX2_lightOfTwo : ByteArray := prog_4_method_7_code
def yX2_lightOfTwo : MethodName := ⟨RX2, "lightOfTwo", "(III)I"⟩
abbrev cX2_foesOf : ByteArray := prog_4_method_8_code
def yX2_foesOf : MethodName := ⟨RX2, "foesOf", "(II)I"⟩
abbrev cX2_residentsOf : ByteArray := prog_4_method_9_code
def yX2_residentsOf : MethodName := ⟨RX2, "residentsOf", "(I)I"⟩
abbrev cX2_lightOf : ByteArray := prog_4_method_10_code
def yX2_lightOf : MethodName := ⟨RX2, "lightOf", "(II)I"⟩
abbrev cX2_hasSmoke : ByteArray := prog_4_method_11_code
def yX2_hasSmoke : MethodName := ⟨RX2, "hasSmoke", "(II)Z"⟩
abbrev cX2_drawKinds : ByteArray := prog_4_method_12_code
def yX2_drawKinds : MethodName := ⟨RX2, "drawKinds", "(LLampsOfDissent$Moment;I)V"⟩
abbrev cX2_goBy : ByteArray := prog_4_method_13_code
def yX2_goBy : MethodName := ⟨RX2, "goBy", "(I)V"⟩
abbrev cX2_changeTempers : ByteArray := prog_4_method_14_code
def yX2_changeTempers : MethodName := ⟨RX2, "changeTempers", "()V"⟩
abbrev cX2_changeOpinions : ByteArray := prog_4_method_15_code
def yX2_changeOpinions : MethodName := ⟨RX2, "changeOpinions", "()V"⟩
def RX3 : String := "LampsOfDissent$Past"
def TX3 : u_T := fun k => match k with
  | 0 => ("LampsOfDissent$Past", "ring", "[LLampsOfDissent$Moment;", true)
  | 1 => ("LampsOfDissent$Past", "next", "I", false)
  | _ => ("LampsOfDissent$Past", "held", "I", false)
def tyX3 : Nat → FieldType := fun k => match k with
  | 0 => .array (.object "LampsOfDissent$Moment")
  | 1 => .int
  | _ => .int
abbrev wsX30 : List Cond := u_ws RX3 TX3 3
theorem nmX3 : ∀ a, a < 3 → ∀ b, b < 3 → a ≠ b → (TX3 a).2.1 ≠ (TX3 b).2.1 := by decide +kernel
theorem tyX3_ok : ∀ k, k < 3 → parseFieldDescriptor (TX3 k).2.2.1 = some (tyX3 k) := by decide +kernel
abbrev cX3_init : ByteArray := prog_5_method_1_code
def yX3_init : MethodName := ⟨RX3, "<init>", "()V"⟩
abbrev cX3_remember : ByteArray := prog_5_method_2_code
def yX3_remember : MethodName := ⟨RX3, "remember", "(LLampsOfDissent$Moment;)V"⟩
abbrev cX3_restore : ByteArray := prog_5_method_3_code
def yX3_restore : MethodName := ⟨RX3, "restore", "(LLampsOfDissent$Moment;)Z"⟩
def RX4 : String := "LampsOfDissent$TalkSearch"
def TX4 : u_T := fun k => match k with
  | 0 => ("LampsOfDissent$TalkSearch", "steps", "[LLampsOfDissent$Moment;", true)
  | 1 => ("LampsOfDissent$TalkSearch", "row", "[I", true)
  | 2 => ("LampsOfDissent$TalkSearch", "best", "[I", true)
  | _ => ("LampsOfDissent$TalkSearch", "most", "I", false)
def tyX4 : Nat → FieldType := fun k => match k with
  | 0 => .array (.object "LampsOfDissent$Moment")
  | 1 => .array .int
  | 2 => .array .int
  | _ => .int
abbrev wsX40 : List Cond := u_ws RX4 TX4 4
theorem nmX4 : ∀ a, a < 4 → ∀ b, b < 4 → a ≠ b → (TX4 a).2.1 ≠ (TX4 b).2.1 := by decide +kernel
theorem tyX4_ok : ∀ k, k < 4 → parseFieldDescriptor (TX4 k).2.2.1 = some (tyX4 k) := by decide +kernel
abbrev cX4_init : ByteArray := prog_6_method_1_code
def yX4_init : MethodName := ⟨RX4, "<init>", "()V"⟩
abbrev cX4_search : ByteArray := prog_6_method_2_code
def yX4_search : MethodName := ⟨RX4, "search", "(LLampsOfDissent$City;LLampsOfDissent$Moment;I)V"⟩
abbrev cX4_discuss : ByteArray := prog_6_method_3_code
def yX4_discuss : MethodName := ⟨RX4, "discuss", "(LLampsOfDissent$TalkSearch;LLampsOfDissent$City;III)V"⟩
abbrev cX4_weigh : ByteArray := prog_6_method_4_code
def yX4_weigh : MethodName := ⟨RX4, "weigh", "(I)V"⟩
def RX5 : String := "LampsOfDissent$Text"
def TX5 : u_T := fun k => match k with
  | 0 => ("LampsOfDissent$Text", "letters", "[I", true)
  | 1 => ("LampsOfDissent$Text", "numbers", "[I", true)
  | 2 => ("LampsOfDissent$Text", "length", "I", false)
  | _ => ("LampsOfDissent$Text", "at", "I", false)
def tyX5 : Nat → FieldType := fun k => match k with
  | 0 => .array .int
  | 1 => .array .int
  | 2 => .int
  | _ => .int
abbrev wsX50 : List Cond := u_ws RX5 TX5 4
theorem nmX5 : ∀ a, a < 4 → ∀ b, b < 4 → a ≠ b → (TX5 a).2.1 ≠ (TX5 b).2.1 := by decide +kernel
theorem tyX5_ok : ∀ k, k < 4 → parseFieldDescriptor (TX5 k).2.2.1 = some (tyX5 k) := by decide +kernel
abbrev cX5_init : ByteArray := prog_7_method_1_code
def yX5_init : MethodName := ⟨RX5, "<init>", "()V"⟩
abbrev cX5_append : ByteArray := prog_7_method_2_code
def yX5_append : MethodName := ⟨RX5, "append", "(I)Z"⟩
abbrev cX5_readInto : ByteArray := prog_7_method_3_code
def yX5_readInto : MethodName := ⟨RX5, "readInto", "(LLampsOfDissent$City;)I"⟩
abbrev cX5_readItem : ByteArray := prog_7_method_4_code
def yX5_readItem : MethodName := ⟨RX5, "readItem", "(LLampsOfDissent$City;)Z"⟩
abbrev cX5_readNumbers : ByteArray := prog_7_method_5_code
def yX5_readNumbers : MethodName := ⟨RX5, "readNumbers", "(I)Z"⟩
abbrev cX5_readNumber : ByteArray := prog_7_method_6_code
def yX5_readNumber : MethodName := ⟨RX5, "readNumber", "()I"⟩
abbrev cX5_letterHere : ByteArray := prog_7_method_7_code
def yX5_letterHere : MethodName := ⟨RX5, "letterHere", "()I"⟩
def RX6 : String := "LampsOfDissent"
def TX6 : u_T := fun k => match k with
  | 0 => ("LampsOfDissent", "text", "LLampsOfDissent$Text;", true)
  | 1 => ("LampsOfDissent", "city", "LLampsOfDissent$City;", false)
  | 2 => ("LampsOfDissent", "draft", "LLampsOfDissent$City;", false)
  | 3 => ("LampsOfDissent", "now", "LLampsOfDissent$Moment;", true)
  | 4 => ("LampsOfDissent", "later", "LLampsOfDissent$Moment;", true)
  | 5 => ("LampsOfDissent", "past", "LLampsOfDissent$Past;", true)
  | 6 => ("LampsOfDissent", "kept", "[LLampsOfDissent$Moment;", true)
  | 7 => ("LampsOfDissent", "keptCount", "I", false)
  | 8 => ("LampsOfDissent", "seenHouse", "[I", true)
  | 9 => ("LampsOfDissent", "seenLight", "[I", true)
  | 10 => ("LampsOfDissent", "seenCount", "I", false)
  | 11 => ("LampsOfDissent", "homeSearch", "LLampsOfDissent$HomeSearch;", true)
  | 12 => ("LampsOfDissent", "talkSearch", "LLampsOfDissent$TalkSearch;", true)
  | _ => ("LampsOfDissent", "spouse", "[I", true)
def tyX6 : Nat → FieldType := fun k => match k with
  | 0 => .object "LampsOfDissent$Text"
  | 1 => .object "LampsOfDissent$City"
  | 2 => .object "LampsOfDissent$City"
  | 3 => .object "LampsOfDissent$Moment"
  | 4 => .object "LampsOfDissent$Moment"
  | 5 => .object "LampsOfDissent$Past"
  | 6 => .array (.object "LampsOfDissent$Moment")
  | 7 => .int
  | 8 => .array .int
  | 9 => .array .int
  | 10 => .int
  | 11 => .object "LampsOfDissent$HomeSearch"
  | 12 => .object "LampsOfDissent$TalkSearch"
  | _ => .array .int
abbrev wsX60 : List Cond := u_ws RX6 TX6 14
theorem nmX6 : ∀ a, a < 14 → ∀ b, b < 14 → a ≠ b → (TX6 a).2.1 ≠ (TX6 b).2.1 := by decide +kernel
theorem tyX6_ok : ∀ k, k < 14 → parseFieldDescriptor (TX6 k).2.2.1 = some (tyX6 k) := by decide +kernel
abbrev cX6_init : ByteArray := prog_1_method_1_code
def yX6_init : MethodName := ⟨RX6, "<init>", "()V"⟩
abbrev cX6_write : ByteArray := prog_1_method_2_code
def yX6_write : MethodName := ⟨RX6, "write", "(I)I"⟩
abbrev cX6_wipe : ByteArray := prog_1_method_3_code
def yX6_wipe : MethodName := ⟨RX6, "wipe", "()I"⟩
abbrev cX6_fault : ByteArray := prog_1_method_4_code
def yX6_fault : MethodName := ⟨RX6, "fault", "()I"⟩
abbrev cX6_lay : ByteArray := prog_1_method_5_code
def yX6_lay : MethodName := ⟨RX6, "lay", "()I"⟩
abbrev cX6_person : ByteArray := prog_1_method_6_code
def yX6_person : MethodName := ⟨RX6, "person", "(II)I"⟩
abbrev cX6_work : ByteArray := prog_1_method_7_code
def yX6_work : MethodName := ⟨RX6, "work", "(II)I"⟩
abbrev cX6_pass : ByteArray := prog_1_method_8_code
def yX6_pass : MethodName := ⟨RX6, "pass", "(I)I"⟩
abbrev cX6_move : ByteArray := prog_1_method_9_code
def yX6_move : MethodName := ⟨RX6, "move", "(II)I"⟩
abbrev cX6_alter : ByteArray := prog_1_method_10_code
def yX6_alter : MethodName := ⟨RX6, "alter", "(II)I"⟩
abbrev cX6_ration : ByteArray := prog_1_method_11_code
def yX6_ration : MethodName := ⟨RX6, "ration", "(I)I"⟩
abbrev cX6_undo : ByteArray := prog_1_method_12_code
def yX6_undo : MethodName := ⟨RX6, "undo", "()I"⟩
abbrev cX6_light : ByteArray := prog_1_method_13_code
def yX6_light : MethodName := ⟨RX6, "light", "(II)I"⟩
abbrev cX6_lit : ByteArray := prog_1_method_14_code
def yX6_lit : MethodName := ⟨RX6, "lit", "(I)I"⟩
abbrev cX6_reach : ByteArray := prog_1_method_15_code
def yX6_reach : MethodName := ⟨RX6, "reach", "(I)I"⟩
abbrev cX6_first : ByteArray := prog_1_method_16_code
def yX6_first : MethodName := ⟨RX6, "first", "()I"⟩
abbrev cX6_homes : ByteArray := prog_1_method_17_code
def yX6_homes : MethodName := ⟨RX6, "homes", "(I)I"⟩
abbrev cX6_apart : ByteArray := prog_1_method_18_code
def yX6_apart : MethodName := ⟨RX6, "apart", "(III)I"⟩
abbrev cX6_talk : ByteArray := prog_1_method_19_code
def yX6_talk : MethodName := ⟨RX6, "talk", "(II)I"⟩
abbrev cX6_settles : ByteArray := prog_1_method_20_code
def yX6_settles : MethodName := ⟨RX6, "settles", "()I"⟩
abbrev cX6_seen : ByteArray := prog_1_method_21_code
def yX6_seen : MethodName := ⟨RX6, "seen", "(II)I"⟩
abbrev cX6_forget : ByteArray := prog_1_method_22_code
def yX6_forget : MethodName := ⟨RX6, "forget", "()I"⟩
abbrev cX6_may : ByteArray := prog_1_method_23_code
def yX6_may : MethodName := ⟨RX6, "may", "(II)I"⟩
abbrev cX6_smokes : ByteArray := prog_1_method_24_code
def yX6_smokes : MethodName := ⟨RX6, "smokes", "()I"⟩
abbrev cX6_married : ByteArray := prog_1_method_25_code
def yX6_married : MethodName := ⟨RX6, "married", "(I)I"⟩
abbrev cX6_falseBy : ByteArray := prog_1_method_26_code
def yX6_falseBy : MethodName := ⟨RX6, "falseBy", "(III)I"⟩
abbrev cX6_winter : ByteArray := prog_1_method_27_code
def yX6_winter : MethodName := ⟨RX6, "winter", "(III)I"⟩
abbrev cX6_keep : ByteArray := prog_1_method_28_code
def yX6_keep : MethodName := ⟨RX6, "keep", "()I"⟩
abbrev cX6_back : ByteArray := prog_1_method_29_code
def yX6_back : MethodName := ⟨RX6, "back", "()I"⟩
abbrev cX6_count : ByteArray := prog_1_method_30_code
def yX6_count : MethodName := ⟨RX6, "count", "(I)I"⟩
abbrev cX6_isPerson : ByteArray := prog_1_method_31_code
def yX6_isPerson : MethodName := ⟨RX6, "isPerson", "(I)Z"⟩
abbrev cX6_isHouse : ByteArray := prog_1_method_32_code
def yX6_isHouse : MethodName := ⟨RX6, "isHouse", "(I)Z"⟩
abbrev cX6_isSubject : ByteArray := prog_1_method_33_code
def yX6_isSubject : MethodName := ⟨RX6, "isSubject", "(I)Z"⟩
abbrev cX6_layText : ByteArray := prog_1_method_34_code
def yX6_layText : MethodName := ⟨RX6, "layText", "()Z"⟩
abbrev cX6_lookAhead : ByteArray := prog_1_method_35_code
def yX6_lookAhead : MethodName := ⟨RX6, "lookAhead", "(I)V"⟩
abbrev cX6_lightIfMoved : ByteArray := prog_1_method_36_code
def yX6_lightIfMoved : MethodName := ⟨RX6, "lightIfMoved", "(II)I"⟩
abbrev cX6_nobodyAtOdds : ByteArray := prog_1_method_37_code
def yX6_nobodyAtOdds : MethodName := ⟨RX6, "nobodyAtOdds", "(LLampsOfDissent$Moment;I)Z"⟩
abbrev cX6_agreesWithSeen : ByteArray := prog_1_method_38_code
def yX6_agreesWithSeen : MethodName := ⟨RX6, "agreesWithSeen", "(LLampsOfDissent$Moment;)Z"⟩
abbrev cX6_marryMostUnlike : ByteArray := prog_1_method_39_code
def yX6_marryMostUnlike : MethodName := ⟨RX6, "marryMostUnlike", "()V"⟩
abbrev cX6_smokingChances : ByteArray := prog_1_method_40_code
def yX6_smokingChances : MethodName := ⟨RX6, "smokingChances", "(II)I"⟩
abbrev cX6_power : ByteArray := prog_1_method_41_code
def yX6_power : MethodName := ⟨RX6, "power", "(II)I"⟩
abbrev cX6_inLowestTerms : ByteArray := prog_1_method_42_code
def yX6_inLowestTerms : MethodName := ⟨RX6, "inLowestTerms", "(III)I"⟩
abbrev cX6_drawOf : ByteArray := prog_1_method_43_code
def yX6_drawOf : MethodName := ⟨RX6, "drawOf", "(II)I"⟩
abbrev cX6_alterByDraw : ByteArray := prog_1_method_44_code
def yX6_alterByDraw : MethodName := ⟨RX6, "alterByDraw", "(LLampsOfDissent$Moment;I)V"⟩
def RX7 : String := "LampsOfDissentModel"
def TX7 : u_T := fun k => match k with
  | 0 => ("LampsOfDissentModel", "told", "[I", true)
  | 1 => ("LampsOfDissentModel", "now", "[I", true)
  | 2 => ("LampsOfDissentModel", "text", "[I", true)
  | 3 => ("LampsOfDissentModel", "letters", "I", false)
  | 4 => ("LampsOfDissentModel", "at", "I", false)
  | 5 => ("LampsOfDissentModel", "readTold", "[I", true)
  | 6 => ("LampsOfDissentModel", "readNow", "[I", true)
  | 7 => ("LampsOfDissentModel", "isMore", "Z", false)
  | 8 => ("LampsOfDissentModel", "number", "I", false)
  | 9 => ("LampsOfDissentModel", "lights", "[I", true)
  | 10 => ("LampsOfDissentModel", "smoke", "I", false)
  | 11 => ("LampsOfDissentModel", "with", "[I", true)
  | 12 => ("LampsOfDissentModel", "undone", "[I", true)
  | 13 => ("LampsOfDissentModel", "undos", "I", false)
  | 14 => ("LampsOfDissentModel", "aside", "[I", true)
  | 15 => ("LampsOfDissentModel", "homes", "[I", true)
  | 16 => ("LampsOfDissentModel", "homesLit", "I", false)
  | 17 => ("LampsOfDissentModel", "homesMoved", "I", false)
  | 18 => ("LampsOfDissentModel", "seenHouse", "[I", true)
  | 19 => ("LampsOfDissentModel", "seenLight", "[I", true)
  | 20 => ("LampsOfDissentModel", "seens", "I", false)
  | 21 => ("LampsOfDissentModel", "kept", "[I", true)
  | _ => ("LampsOfDissentModel", "keeps", "I", false)
def tyX7 : Nat → FieldType := fun k => match k with
  | 0 => .array .int
  | 1 => .array .int
  | 2 => .array .int
  | 3 => .int
  | 4 => .int
  | 5 => .array .int
  | 6 => .array .int
  | 7 => .boolean
  | 8 => .int
  | 9 => .array .int
  | 10 => .int
  | 11 => .array .int
  | 12 => .array .int
  | 13 => .int
  | 14 => .array .int
  | 15 => .array .int
  | 16 => .int
  | 17 => .int
  | 18 => .array .int
  | 19 => .array .int
  | 20 => .int
  | 21 => .array .int
  | _ => .int
abbrev wsX70 : List Cond := u_ws RX7 TX7 23
theorem nmX7 : ∀ a, a < 23 → ∀ b, b < 23 → a ≠ b → (TX7 a).2.1 ≠ (TX7 b).2.1 := by decide +kernel
theorem tyX7_ok : ∀ k, k < 23 → parseFieldDescriptor (TX7 k).2.2.1 = some (tyX7 k) := by decide +kernel
abbrev cX7_in : ByteArray := prog_9_method_2_code
def yX7_in : MethodName := ⟨RX7, "in", "(JJJ)Z"⟩
abbrev cX7_init : ByteArray := prog_9_method_3_code
def yX7_init : MethodName := ⟨RX7, "<init>", "()V"⟩
abbrev cX7_lives : ByteArray := prog_9_method_4_code
def yX7_lives : MethodName := ⟨RX7, "lives", "(IIII)V"⟩
abbrev cX7_works : ByteArray := prog_9_method_5_code
def yX7_works : MethodName := ⟨RX7, "works", "(III)V"⟩
abbrev cX7_isPerson : ByteArray := prog_9_method_6_code
def yX7_isPerson : MethodName := ⟨RX7, "isPerson", "(I)Z"⟩
abbrev cX7_isHouse : ByteArray := prog_9_method_7_code
def yX7_isHouse : MethodName := ⟨RX7, "isHouse", "(I)Z"⟩
abbrev cX7_isSubject : ByteArray := prog_9_method_8_code
def yX7_isSubject : MethodName := ⟨RX7, "isSubject", "(I)Z"⟩
abbrev cX7_opinions : ByteArray := prog_9_method_9_code
def yX7_opinions : MethodName := ⟨RX7, "opinions", "(I)I"⟩
abbrev cX7_temper : ByteArray := prog_9_method_10_code
def yX7_temper : MethodName := ⟨RX7, "temper", "(I)I"⟩
abbrev cX7_house : ByteArray := prog_9_method_11_code
def yX7_house : MethodName := ⟨RX7, "house", "(I)I"⟩
abbrev cX7_write : ByteArray := prog_9_method_12_code
def yX7_write : MethodName := ⟨RX7, "write", "(I)I"⟩
abbrev cX7_wipe : ByteArray := prog_9_method_13_code
def yX7_wipe : MethodName := ⟨RX7, "wipe", "()I"⟩
abbrev cX7_isFigure : ByteArray := prog_9_method_14_code
def yX7_isFigure : MethodName := ⟨RX7, "isFigure", "()Z"⟩
abbrev cX7_number : ByteArray := prog_9_method_15_code
def yX7_number : MethodName := ⟨RX7, "number", "(III)Z"⟩
abbrev cX7_readPerson : ByteArray := prog_9_method_16_code
def yX7_readPerson : MethodName := ⟨RX7, "readPerson", "()Z"⟩
abbrev cX7_readWork : ByteArray := prog_9_method_17_code
def yX7_readWork : MethodName := ⟨RX7, "readWork", "()Z"⟩
abbrev cX7_readTalk : ByteArray := prog_9_method_18_code
def yX7_readTalk : MethodName := ⟨RX7, "readTalk", "()Z"⟩
abbrev cX7_item : ByteArray := prog_9_method_19_code
def yX7_item : MethodName := ⟨RX7, "item", "()Z"⟩
abbrev cX7_fault : ByteArray := prog_9_method_20_code
def yX7_fault : MethodName := ⟨RX7, "fault", "()I"⟩
abbrev cX7_lay : ByteArray := prog_9_method_21_code
def yX7_lay : MethodName := ⟨RX7, "lay", "()I"⟩
abbrev cX7_many : ByteArray := prog_9_method_22_code
def yX7_many : MethodName := ⟨RX7, "many", "(I)I"⟩
abbrev cX7_speaks : ByteArray := prog_9_method_23_code
def yX7_speaks : MethodName := ⟨RX7, "speaks", "(I)Z"⟩
abbrev cX7_odds : ByteArray := prog_9_method_24_code
def yX7_odds : MethodName := ⟨RX7, "odds", "(III)I"⟩
abbrev cX7_talkedOf : ByteArray := prog_9_method_25_code
def yX7_talkedOf : MethodName := ⟨RX7, "talkedOf", "()I"⟩
abbrev cX7_burns : ByteArray := prog_9_method_26_code
def yX7_burns : MethodName := ⟨RX7, "burns", "(I)V"⟩
abbrev cX7_allLight : ByteArray := prog_9_method_27_code
def yX7_allLight : MethodName := ⟨RX7, "allLight", "()I"⟩
abbrev cX7_allLit : ByteArray := prog_9_method_28_code
def yX7_allLit : MethodName := ⟨RX7, "allLit", "()I"⟩
abbrev cX7_angers : ByteArray := prog_9_method_29_code
def yX7_angers : MethodName := ⟨RX7, "angers", "(II)V"⟩
abbrev cX7_meets : ByteArray := prog_9_method_30_code
def yX7_meets : MethodName := ⟨RX7, "meets", "(I)V"⟩
abbrev cX7_goesBy : ByteArray := prog_9_method_31_code
def yX7_goesBy : MethodName := ⟨RX7, "goesBy", "(I)V"⟩
abbrev cX7_goesOn : ByteArray := prog_9_method_32_code
def yX7_goesOn : MethodName := ⟨RX7, "goesOn", "(I)V"⟩
abbrev cX7_person : ByteArray := prog_9_method_33_code
def yX7_person : MethodName := ⟨RX7, "person", "(II)I"⟩
abbrev cX7_work : ByteArray := prog_9_method_34_code
def yX7_work : MethodName := ⟨RX7, "work", "(II)I"⟩
abbrev cX7_notes : ByteArray := prog_9_method_35_code
def yX7_notes : MethodName := ⟨RX7, "notes", "()V"⟩
abbrev cX7_pass : ByteArray := prog_9_method_36_code
def yX7_pass : MethodName := ⟨RX7, "pass", "(I)I"⟩
abbrev cX7_move : ByteArray := prog_9_method_37_code
def yX7_move : MethodName := ⟨RX7, "move", "(II)I"⟩
abbrev cX7_alter : ByteArray := prog_9_method_38_code
def yX7_alter : MethodName := ⟨RX7, "alter", "(II)I"⟩
abbrev cX7_ration : ByteArray := prog_9_method_39_code
def yX7_ration : MethodName := ⟨RX7, "ration", "(I)I"⟩
abbrev cX7_undo : ByteArray := prog_9_method_40_code
def yX7_undo : MethodName := ⟨RX7, "undo", "()I"⟩
abbrev cX7_asides : ByteArray := prog_9_method_41_code
def yX7_asides : MethodName := ⟨RX7, "asides", "()V"⟩
abbrev cX7_backs : ByteArray := prog_9_method_42_code
def yX7_backs : MethodName := ⟨RX7, "backs", "()V"⟩
abbrev cX7_burnsIn : ByteArray := prog_9_method_43_code
def yX7_burnsIn : MethodName := ⟨RX7, "burnsIn", "(I)V"⟩
abbrev cX7_light : ByteArray := prog_9_method_44_code
def yX7_light : MethodName := ⟨RX7, "light", "(II)I"⟩
abbrev cX7_lit : ByteArray := prog_9_method_45_code
def yX7_lit : MethodName := ⟨RX7, "lit", "(I)I"⟩
abbrev cX7_reach : ByteArray := prog_9_method_46_code
def yX7_reach : MethodName := ⟨RX7, "reach", "(I)I"⟩
abbrev cX7_first : ByteArray := prog_9_method_47_code
def yX7_first : MethodName := ⟨RX7, "first", "()I"⟩
abbrev cX7_movers : ByteArray := prog_9_method_48_code
def yX7_movers : MethodName := ⟨RX7, "movers", "()I"⟩
abbrev cX7_isNext : ByteArray := prog_9_method_49_code
def yX7_isNext : MethodName := ⟨RX7, "isNext", "()Z"⟩
abbrev cX7_seeksHomes : ByteArray := prog_9_method_50_code
def yX7_seeksHomes : MethodName := ⟨RX7, "seeksHomes", "()V"⟩
abbrev cX7_homes : ByteArray := prog_9_method_51_code
def yX7_homes : MethodName := ⟨RX7, "homes", "(I)I"⟩
abbrev cX7_apart : ByteArray := prog_9_method_52_code
def yX7_apart : MethodName := ⟨RX7, "apart", "(III)I"⟩
abbrev cX7_talk : ByteArray := prog_9_method_53_code
def yX7_talk : MethodName := ⟨RX7, "talk", "(II)I"⟩
abbrev cX7_settles : ByteArray := prog_9_method_54_code
def yX7_settles : MethodName := ⟨RX7, "settles", "()I"⟩
abbrev cX7_seen : ByteArray := prog_9_method_55_code
def yX7_seen : MethodName := ⟨RX7, "seen", "(II)I"⟩
abbrev cX7_forget : ByteArray := prog_9_method_56_code
def yX7_forget : MethodName := ⟨RX7, "forget", "()I"⟩
abbrev cX7_may : ByteArray := prog_9_method_57_code
def yX7_may : MethodName := ⟨RX7, "may", "(II)I"⟩
abbrev cX7_smokes : ByteArray := prog_9_method_58_code
def yX7_smokes : MethodName := ⟨RX7, "smokes", "()I"⟩
abbrev cX7_married : ByteArray := prog_9_method_59_code
def yX7_married : MethodName := ⟨RX7, "married", "(I)I"⟩
abbrev cX7_isSmoke : ByteArray := prog_9_method_60_code
def yX7_isSmoke : MethodName := ⟨RX7, "isSmoke", "(III)Z"⟩
abbrev cX7_falseBy : ByteArray := prog_9_method_61_code
def yX7_falseBy : MethodName := ⟨RX7, "falseBy", "(III)I"⟩
abbrev cX7_winter : ByteArray := prog_9_method_62_code
def yX7_winter : MethodName := ⟨RX7, "winter", "(III)I"⟩
abbrev cX7_keep : ByteArray := prog_9_method_63_code
def yX7_keep : MethodName := ⟨RX7, "keep", "()I"⟩
abbrev cX7_back : ByteArray := prog_9_method_64_code
def yX7_back : MethodName := ⟨RX7, "back", "()I"⟩
abbrev cX7_count : ByteArray := prog_9_method_65_code
def yX7_count : MethodName := ⟨RX7, "count", "(I)I"⟩
def RJx145de : String := "java/io/Serializable"
def TJx145de : u_T := fun k => match k with
  | _ => ("", "", "", false)
def tyJx145de : Nat → FieldType := fun k => match k with
  | _ => .int
abbrev wsJx145de0 : List Cond := u_ws RJx145de TJx145de 0
theorem nmJx145de : ∀ a, a < 0 → ∀ b, b < 0 → a ≠ b → (TJx145de a).2.1 ≠ (TJx145de b).2.1 := by decide +kernel
theorem tyJx145de_ok : ∀ k, k < 0 → parseFieldDescriptor (TJx145de k).2.2.1 = some (tyJx145de k) := by decide +kernel
def RJx9f9b0 : String := "java/lang/CharSequence"
def TJx9f9b0 : u_T := fun k => match k with
  | _ => ("", "", "", false)
def tyJx9f9b0 : Nat → FieldType := fun k => match k with
  | _ => .int
abbrev wsJx9f9b00 : List Cond := u_ws RJx9f9b0 TJx9f9b0 0
theorem nmJx9f9b0 : ∀ a, a < 0 → ∀ b, b < 0 → a ≠ b → (TJx9f9b0 a).2.1 ≠ (TJx9f9b0 b).2.1 := by decide +kernel
theorem tyJx9f9b0_ok : ∀ k, k < 0 → parseFieldDescriptor (TJx9f9b0 k).2.2.1 = some (tyJx9f9b0 k) := by decide +kernel
def RJxb160c : String := "java/lang/Comparable"
def TJxb160c : u_T := fun k => match k with
  | _ => ("", "", "", false)
def tyJxb160c : Nat → FieldType := fun k => match k with
  | _ => .int
abbrev wsJxb160c0 : List Cond := u_ws RJxb160c TJxb160c 0
theorem nmJxb160c : ∀ a, a < 0 → ∀ b, b < 0 → a ≠ b → (TJxb160c a).2.1 ≠ (TJxb160c b).2.1 := by decide +kernel
theorem tyJxb160c_ok : ∀ k, k < 0 → parseFieldDescriptor (TJxb160c k).2.2.1 = some (tyJxb160c k) := by decide +kernel
def RJ6 : String := "java/lang/Integer"
def TJ6 : u_T := fun k => match k with
  | _ => ("", "", "", false)
def tyJ6 : Nat → FieldType := fun k => match k with
  | _ => .int
abbrev wsJ60 : List Cond := u_ws RJ6 TJ6 0
theorem nmJ6 : ∀ a, a < 0 → ∀ b, b < 0 → a ≠ b → (TJ6 a).2.1 ≠ (TJ6 b).2.1 := by decide +kernel
theorem tyJ6_ok : ∀ k, k < 0 → parseFieldDescriptor (TJ6 k).2.2.1 = some (tyJ6 k) := by decide +kernel
abbrev cJ6_bitCount_0f7a4 : ByteArray := prog_10_method_49_code
def yJ6_bitCount_0f7a4 : MethodName := ⟨RJ6, "bitCount", "(I)I"⟩
def RJ9 : String := "java/lang/Math"
def TJ9 : u_T := fun k => match k with
  | _ => ("", "", "", false)
def tyJ9 : Nat → FieldType := fun k => match k with
  | _ => .int
abbrev wsJ90 : List Cond := u_ws RJ9 TJ9 0
theorem nmJ9 : ∀ a, a < 0 → ∀ b, b < 0 → a ≠ b → (TJ9 a).2.1 ≠ (TJ9 b).2.1 := by decide +kernel
theorem tyJ9_ok : ∀ k, k < 0 → parseFieldDescriptor (TJ9 k).2.2.1 = some (tyJ9 k) := by decide +kernel
abbrev cJ9_floorMod_7cf53 : ByteArray := prog_11_method_50_code
def yJ9_floorMod_7cf53 : MethodName := ⟨RJ9, "floorMod", "(II)I"⟩
abbrev cJ9_max_7cf53 : ByteArray := prog_11_method_65_code
def yJ9_max_7cf53 : MethodName := ⟨RJ9, "max", "(II)I"⟩
abbrev cJ9_min_7cf53 : ByteArray := prog_11_method_69_code
def yJ9_min_7cf53 : MethodName := ⟨RJ9, "min", "(II)I"⟩
def RJ0 : String := "java/lang/String"
def TJ0 : u_T := fun k => match k with
  | _ => ("", "", "", false)
def tyJ0 : Nat → FieldType := fun k => match k with
  | _ => .int
abbrev wsJ00 : List Cond := u_ws RJ0 TJ0 0
theorem nmJ0 : ∀ a, a < 0 → ∀ b, b < 0 → a ≠ b → (TJ0 a).2.1 ≠ (TJ0 b).2.1 := by decide +kernel
theorem tyJ0_ok : ∀ k, k < 0 → parseFieldDescriptor (TJ0 k).2.2.1 = some (tyJ0 k) := by decide +kernel
abbrev cJ0_length_8abf5 : ByteArray := prog_12_method_54_code
def yJ0_length_8abf5 : MethodName := ⟨RJ0, "length", "()I"⟩
abbrev cJ0_charAt_5068e : ByteArray := prog_12_method_56_code
def yJ0_charAt_5068e : MethodName := ⟨RJ0, "charAt", "(I)C"⟩
abbrev cJ0_coder_7d493 : ByteArray := prog_12_method_152_code
def yJ0_coder_7d493 : MethodName := ⟨RJ0, "coder", "()B"⟩
abbrev cJ0_isLatin1_aae02 : ByteArray := prog_12_method_154_code
def yJ0_isLatin1_aae02 : MethodName := ⟨RJ0, "isLatin1", "()Z"⟩
abbrev cJ0_checkIndex_df160 : ByteArray := prog_12_method_155_code
def yJ0_checkIndex_df160 : MethodName := ⟨RJ0, "checkIndex", "(II)V"⟩
def RJ1 : String := "java/lang/StringLatin1"
def TJ1 : u_T := fun k => match k with
  | _ => ("", "", "", false)
def tyJ1 : Nat → FieldType := fun k => match k with
  | _ => .int
abbrev wsJ10 : List Cond := u_ws RJ1 TJ1 0
theorem nmJ1 : ∀ a, a < 0 → ∀ b, b < 0 → a ≠ b → (TJ1 a).2.1 ≠ (TJ1 b).2.1 := by decide +kernel
theorem tyJ1_ok : ∀ k, k < 0 → parseFieldDescriptor (TJ1 k).2.2.1 = some (tyJ1 k) := by decide +kernel
abbrev cJ1_charAt_3b067 : ByteArray := prog_13_method_2_code
def yJ1_charAt_3b067 : MethodName := ⟨RJ1, "charAt", "([BI)C"⟩
def RJ2 : String := "java/lang/StringUTF16"
def TJ2 : u_T := fun k => match k with
  | _ => ("", "", "", false)
def tyJ2 : Nat → FieldType := fun k => match k with
  | _ => .int
abbrev wsJ20 : List Cond := u_ws RJ2 TJ2 0
theorem nmJ2 : ∀ a, a < 0 → ∀ b, b < 0 → a ≠ b → (TJ2 a).2.1 ≠ (TJ2 b).2.1 := by decide +kernel
theorem tyJ2_ok : ∀ k, k < 0 → parseFieldDescriptor (TJ2 k).2.2.1 = some (tyJ2 k) := by decide +kernel
abbrev cJ2_getChar_3b067 : ByteArray := prog_14_method_5_code
def yJ2_getChar_3b067 : MethodName := ⟨RJ2, "getChar", "([BI)C"⟩
abbrev cJ2_length_9d52b : ByteArray := prog_14_method_6_code
def yJ2_length_9d52b : MethodName := ⟨RJ2, "length", "([B)I"⟩
abbrev cJ2_charAt_3b067 : ByteArray := prog_14_method_83_code
def yJ2_charAt_3b067 : MethodName := ⟨RJ2, "charAt", "([BI)C"⟩
abbrev cJ2_checkIndex_2214a : ByteArray := prog_14_method_91_code
def yJ2_checkIndex_2214a : MethodName := ⟨RJ2, "checkIndex", "(I[B)V"⟩
def RJ10 : String := "java/lang/System"
def TJ10 : u_T := fun k => match k with
  | _ => ("", "", "", false)
def tyJ10 : Nat → FieldType := fun k => match k with
  | _ => .int
abbrev wsJ100 : List Cond := u_ws RJ10 TJ10 0
theorem nmJ10 : ∀ a, a < 0 → ∀ b, b < 0 → a ≠ b → (TJ10 a).2.1 ≠ (TJ10 b).2.1 := by decide +kernel
theorem tyJ10_ok : ∀ k, k < 0 → parseFieldDescriptor (TJ10 k).2.2.1 = some (tyJ10 k) := by decide +kernel
def RJxfd54e : String := "java/lang/constant/Constable"
def TJxfd54e : u_T := fun k => match k with
  | _ => ("", "", "", false)
def tyJxfd54e : Nat → FieldType := fun k => match k with
  | _ => .int
abbrev wsJxfd54e0 : List Cond := u_ws RJxfd54e TJxfd54e 0
theorem nmJxfd54e : ∀ a, a < 0 → ∀ b, b < 0 → a ≠ b → (TJxfd54e a).2.1 ≠ (TJxfd54e b).2.1 := by decide +kernel
theorem tyJxfd54e_ok : ∀ k, k < 0 → parseFieldDescriptor (TJxfd54e k).2.2.1 = some (tyJxfd54e k) := by decide +kernel
def RJx3cf43 : String := "java/lang/constant/ConstantDesc"
def TJx3cf43 : u_T := fun k => match k with
  | _ => ("", "", "", false)
def tyJx3cf43 : Nat → FieldType := fun k => match k with
  | _ => .int
abbrev wsJx3cf430 : List Cond := u_ws RJx3cf43 TJx3cf43 0
theorem nmJx3cf43 : ∀ a, a < 0 → ∀ b, b < 0 → a ≠ b → (TJx3cf43 a).2.1 ≠ (TJx3cf43 b).2.1 := by decide +kernel
theorem tyJx3cf43_ok : ∀ k, k < 0 → parseFieldDescriptor (TJx3cf43 k).2.2.1 = some (tyJx3cf43 k) := by decide +kernel
def RJ7 : String := "java/util/Arrays"
def TJ7 : u_T := fun k => match k with
  | _ => ("", "", "", false)
def tyJ7 : Nat → FieldType := fun k => match k with
  | _ => .int
abbrev wsJ70 : List Cond := u_ws RJ7 TJ7 0
theorem nmJ7 : ∀ a, a < 0 → ∀ b, b < 0 → a ≠ b → (TJ7 a).2.1 ≠ (TJ7 b).2.1 := by decide +kernel
theorem tyJ7_ok : ∀ k, k < 0 → parseFieldDescriptor (TJ7 k).2.2.1 = some (tyJ7 k) := by decide +kernel
abbrev cJ7_fill_53178 : ByteArray := prog_16_method_103_code
def yJ7_fill_53178 : MethodName := ⟨RJ7, "fill", "([II)V"⟩
def RJ3 : String := "jdk/internal/util/Preconditions"
def TJ3 : u_T := fun k => match k with
  | _ => ("", "", "", false)
def tyJ3 : Nat → FieldType := fun k => match k with
  | _ => .int
abbrev wsJ30 : List Cond := u_ws RJ3 TJ3 0
theorem nmJ3 : ∀ a, a < 0 → ∀ b, b < 0 → a ≠ b → (TJ3 a).2.1 ≠ (TJ3 b).2.1 := by decide +kernel
theorem tyJ3_ok : ∀ k, k < 0 → parseFieldDescriptor (TJ3 k).2.2.1 = some (tyJ3 k) := by decide +kernel
abbrev cJ3_checkIndex_8e157 : ByteArray := prog_17_method_11_code
def yJ3_checkIndex_8e157 : MethodName := ⟨RJ3, "checkIndex", "(IILjava/util/function/BiFunction;)I"⟩
def RL : String := "LampsOfDissentLaw"
abbrev cL_law : ByteArray := code
def yL_law : MethodName := ⟨RL, "law", "([I)Z"⟩
abbrev vwCl : List vw_C := [(RX0, TX0, 8), (RX1, TX1, 6), (RX2, TX2, 7), (RX3, TX3, 3), (RX4, TX4, 4), (RX5, TX5, 4), (RX6, TX6, 14), (RX7, TX7, 23)]
