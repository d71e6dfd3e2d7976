theorem ai_0 : ∀ w ∈ u_ws RX0 TX0 8, w ∈ am_bw := by
  rw [show u_ws RX0 TX0 8 = [Cond.laysFinal RX0 "LampsOfDissent$City" "start" "LLampsOfDissent$Moment;", Cond.laysFinal RX0 "LampsOfDissent$City" "workHouse" "[I", Cond.laysFinal RX0 "LampsOfDissent$City" "workNeed" "[I", Cond.laysFinal RX0 "LampsOfDissent$City" "subjects" "[I", Cond.lays RX0 "LampsOfDissent$City" "houses" "I", Cond.lays RX0 "LampsOfDissent$City" "people" "I", Cond.lays RX0 "LampsOfDissent$City" "works" "I", Cond.lays RX0 "LampsOfDissent$City" "told" "I"] from rfl]
  exact List.forall_mem_cons.mpr ⟨aw_1_113, List.forall_mem_cons.mpr ⟨aw_1_115, List.forall_mem_cons.mpr ⟨aw_1_117, List.forall_mem_cons.mpr ⟨aw_1_119, List.forall_mem_cons.mpr ⟨aw_1_121, List.forall_mem_cons.mpr ⟨aw_1_123, List.forall_mem_cons.mpr ⟨aw_1_125, List.forall_mem_cons.mpr ⟨aw_1_127, fun _ h => absurd h List.not_mem_nil⟩⟩⟩⟩⟩⟩⟩⟩
theorem ai_1 : ∀ w ∈ u_ws RX1 TX1 6, w ∈ am_bw := by
  rw [show u_ws RX1 TX1 6 = [Cond.laysFinal RX1 "LampsOfDissent$HomeSearch" "lightOfTwo" "[I", Cond.laysFinal RX1 "LampsOfDissent$HomeSearch" "chosen" "[I", Cond.laysFinal RX1 "LampsOfDissent$HomeSearch" "lights" "[I", Cond.laysFinal RX1 "LampsOfDissent$HomeSearch" "best" "[I", Cond.lays RX1 "LampsOfDissent$HomeSearch" "bestLit" "I", Cond.lays RX1 "LampsOfDissent$HomeSearch" "bestMoved" "I"] from rfl]
  exact List.forall_mem_cons.mpr ⟨aw_1_167, List.forall_mem_cons.mpr ⟨aw_1_169, List.forall_mem_cons.mpr ⟨aw_1_171, List.forall_mem_cons.mpr ⟨aw_1_173, List.forall_mem_cons.mpr ⟨aw_1_175, List.forall_mem_cons.mpr ⟨aw_1_177, fun _ h => absurd h List.not_mem_nil⟩⟩⟩⟩⟩⟩
theorem ai_2 : ∀ w ∈ u_ws RX2 TX2 7, w ∈ am_bw := by
  rw [show u_ws RX2 TX2 7 = [Cond.laysFinal RX2 "LampsOfDissent$Moment" "kind" "[I", Cond.laysFinal RX2 "LampsOfDissent$Moment" "opinions" "[I", Cond.laysFinal RX2 "LampsOfDissent$Moment" "temper" "[I", Cond.laysFinal RX2 "LampsOfDissent$Moment" "home" "[I", Cond.laysFinal RX2 "LampsOfDissent$Moment" "foes" "[I", Cond.lays RX2 "LampsOfDissent$Moment" "hour" "I", Cond.lays RX2 "LampsOfDissent$Moment" "rations" "I"] from rfl]
  exact List.forall_mem_cons.mpr ⟨aw_1_79, List.forall_mem_cons.mpr ⟨aw_1_81, List.forall_mem_cons.mpr ⟨aw_1_83, List.forall_mem_cons.mpr ⟨aw_1_85, List.forall_mem_cons.mpr ⟨aw_1_87, List.forall_mem_cons.mpr ⟨aw_1_89, List.forall_mem_cons.mpr ⟨aw_1_91, fun _ h => absurd h List.not_mem_nil⟩⟩⟩⟩⟩⟩⟩
theorem ai_3 : ∀ w ∈ u_ws RX3 TX3 3, w ∈ am_bw := by
  rw [show u_ws RX3 TX3 3 = [Cond.laysFinal RX3 "LampsOfDissent$Past" "ring" "[LLampsOfDissent$Moment;", Cond.lays RX3 "LampsOfDissent$Past" "next" "I", Cond.lays RX3 "LampsOfDissent$Past" "held" "I"] from rfl]
  exact List.forall_mem_cons.mpr ⟨aw_1_145, List.forall_mem_cons.mpr ⟨aw_1_147, List.forall_mem_cons.mpr ⟨aw_1_149, fun _ h => absurd h List.not_mem_nil⟩⟩⟩
theorem ai_4 : ∀ w ∈ u_ws RX4 TX4 4, w ∈ am_bw := by
  rw [show u_ws RX4 TX4 4 = [Cond.laysFinal RX4 "LampsOfDissent$TalkSearch" "steps" "[LLampsOfDissent$Moment;", Cond.laysFinal RX4 "LampsOfDissent$TalkSearch" "row" "[I", Cond.laysFinal RX4 "LampsOfDissent$TalkSearch" "best" "[I", Cond.lays RX4 "LampsOfDissent$TalkSearch" "most" "I"] from rfl]
  exact List.forall_mem_cons.mpr ⟨aw_1_194, List.forall_mem_cons.mpr ⟨aw_1_196, List.forall_mem_cons.mpr ⟨aw_1_198, List.forall_mem_cons.mpr ⟨aw_1_200, fun _ h => absurd h List.not_mem_nil⟩⟩⟩⟩
theorem ai_5 : ∀ w ∈ u_ws RX5 TX5 4, w ∈ am_bw := by
  rw [show u_ws RX5 TX5 4 = [Cond.laysFinal RX5 "LampsOfDissent$Text" "letters" "[I", Cond.laysFinal RX5 "LampsOfDissent$Text" "numbers" "[I", Cond.lays RX5 "LampsOfDissent$Text" "length" "I", Cond.lays RX5 "LampsOfDissent$Text" "at" "I"] from rfl]
  exact List.forall_mem_cons.mpr ⟨aw_1_36, List.forall_mem_cons.mpr ⟨aw_1_38, List.forall_mem_cons.mpr ⟨aw_1_40, List.forall_mem_cons.mpr ⟨aw_1_42, fun _ h => absurd h List.not_mem_nil⟩⟩⟩⟩
theorem ai_6 : ∀ w ∈ u_ws RX6 TX6 14, w ∈ am_bw := by
  rw [show u_ws RX6 TX6 14 = [Cond.laysFinal RX6 "LampsOfDissent" "text" "LLampsOfDissent$Text;", Cond.lays RX6 "LampsOfDissent" "city" "LLampsOfDissent$City;", Cond.lays RX6 "LampsOfDissent" "draft" "LLampsOfDissent$City;", Cond.laysFinal RX6 "LampsOfDissent" "now" "LLampsOfDissent$Moment;", Cond.laysFinal RX6 "LampsOfDissent" "later" "LLampsOfDissent$Moment;", Cond.laysFinal RX6 "LampsOfDissent" "past" "LLampsOfDissent$Past;", Cond.laysFinal RX6 "LampsOfDissent" "kept" "[LLampsOfDissent$Moment;", Cond.lays RX6 "LampsOfDissent" "keptCount" "I", Cond.laysFinal RX6 "LampsOfDissent" "seenHouse" "[I", Cond.laysFinal RX6 "LampsOfDissent" "seenLight" "[I", Cond.lays RX6 "LampsOfDissent" "seenCount" "I", Cond.laysFinal RX6 "LampsOfDissent" "homeSearch" "LLampsOfDissent$HomeSearch;", Cond.laysFinal RX6 "LampsOfDissent" "talkSearch" "LLampsOfDissent$TalkSearch;", Cond.laysFinal RX6 "LampsOfDissent" "spouse" "[I"] from rfl]
  exact List.forall_mem_cons.mpr ⟨aw_2_92, List.forall_mem_cons.mpr ⟨aw_2_94, List.forall_mem_cons.mpr ⟨aw_2_96, List.forall_mem_cons.mpr ⟨aw_2_98, List.forall_mem_cons.mpr ⟨aw_2_100, List.forall_mem_cons.mpr ⟨aw_2_102, List.forall_mem_cons.mpr ⟨aw_2_104, List.forall_mem_cons.mpr ⟨aw_2_106, List.forall_mem_cons.mpr ⟨aw_2_108, List.forall_mem_cons.mpr ⟨aw_2_110, List.forall_mem_cons.mpr ⟨aw_2_112, List.forall_mem_cons.mpr ⟨aw_2_114, List.forall_mem_cons.mpr ⟨aw_2_116, List.forall_mem_cons.mpr ⟨aw_2_118, fun _ h => absurd h List.not_mem_nil⟩⟩⟩⟩⟩⟩⟩⟩⟩⟩⟩⟩⟩⟩
theorem ai_7 : ∀ w ∈ u_ws RX7 TX7 23, w ∈ am_bw := by
  rw [show u_ws RX7 TX7 23 = [Cond.laysFinal RX7 "LampsOfDissentModel" "told" "[I", Cond.laysFinal RX7 "LampsOfDissentModel" "now" "[I", Cond.laysFinal RX7 "LampsOfDissentModel" "text" "[I", Cond.lays RX7 "LampsOfDissentModel" "letters" "I", Cond.lays RX7 "LampsOfDissentModel" "at" "I", Cond.laysFinal RX7 "LampsOfDissentModel" "readTold" "[I", Cond.laysFinal RX7 "LampsOfDissentModel" "readNow" "[I", Cond.lays RX7 "LampsOfDissentModel" "isMore" "Z", Cond.lays RX7 "LampsOfDissentModel" "number" "I", Cond.laysFinal RX7 "LampsOfDissentModel" "lights" "[I", Cond.lays RX7 "LampsOfDissentModel" "smoke" "I", Cond.laysFinal RX7 "LampsOfDissentModel" "with" "[I", Cond.laysFinal RX7 "LampsOfDissentModel" "undone" "[I", Cond.lays RX7 "LampsOfDissentModel" "undos" "I", Cond.laysFinal RX7 "LampsOfDissentModel" "aside" "[I", Cond.laysFinal RX7 "LampsOfDissentModel" "homes" "[I", Cond.lays RX7 "LampsOfDissentModel" "homesLit" "I", Cond.lays RX7 "LampsOfDissentModel" "homesMoved" "I", Cond.laysFinal RX7 "LampsOfDissentModel" "seenHouse" "[I", Cond.laysFinal RX7 "LampsOfDissentModel" "seenLight" "[I", Cond.lays RX7 "LampsOfDissentModel" "seens" "I", Cond.laysFinal RX7 "LampsOfDissentModel" "kept" "[I", Cond.lays RX7 "LampsOfDissentModel" "keeps" "I"] from rfl]
  exact List.forall_mem_cons.mpr ⟨aw_3_216, List.forall_mem_cons.mpr ⟨aw_3_218, List.forall_mem_cons.mpr ⟨aw_3_220, List.forall_mem_cons.mpr ⟨aw_3_222, List.forall_mem_cons.mpr ⟨aw_3_224, List.forall_mem_cons.mpr ⟨aw_3_226, List.forall_mem_cons.mpr ⟨aw_3_228, List.forall_mem_cons.mpr ⟨aw_3_230, List.forall_mem_cons.mpr ⟨aw_3_232, List.forall_mem_cons.mpr ⟨aw_3_234, List.forall_mem_cons.mpr ⟨aw_3_236, List.forall_mem_cons.mpr ⟨aw_3_238, List.forall_mem_cons.mpr ⟨aw_4_0, List.forall_mem_cons.mpr ⟨aw_4_2, List.forall_mem_cons.mpr ⟨aw_4_4, List.forall_mem_cons.mpr ⟨aw_4_6, List.forall_mem_cons.mpr ⟨aw_4_8, List.forall_mem_cons.mpr ⟨aw_4_10, List.forall_mem_cons.mpr ⟨aw_4_12, List.forall_mem_cons.mpr ⟨aw_4_14, List.forall_mem_cons.mpr ⟨aw_4_16, List.forall_mem_cons.mpr ⟨aw_4_18, List.forall_mem_cons.mpr ⟨aw_4_20, fun _ h => absurd h List.not_mem_nil⟩⟩⟩⟩⟩⟩⟩⟩⟩⟩⟩⟩⟩⟩⟩⟩⟩⟩⟩⟩⟩⟩⟩
/-- what is known of a class of the worlds -/
theorem am_class : ∀ (ci : Nat) (C : String) (T : u_T) (N : Nat), vwCl[ci]? = some (C, T, N) → (∀ w ∈ u_ws C T N, w ∈ am_bw) ∧ (∀ k, k < N → parseFieldDescriptor (T k).2.2.1 = some (am_ty ci k)) ∧ (∀ a, a < N → ∀ b, b < N → a ≠ b → (T a).2.1 ≠ (T b).2.1) ∧ Cond.instantiable C N ∈ am_bw ∧ Cond.initialized C ∈ am_bw ∧ C = am_on ci ∧ T = am_cls ci ∧ (am_df ci).length = N ∧ (∀ j, j < N → defaultValue (am_ty ci j) = vp_V (am_df ci) j)
  | 0, _, _, _, h => by cases h; exact ⟨ai_0, tyX0_ok, nmX0, aw_1_47, aw_1_3, rfl, rfl, rfl, by decide +kernel⟩
  | 1, _, _, _, h => by cases h; exact ⟨ai_1, tyX1_ok, nmX1, aw_1_153, aw_1_6, rfl, rfl, rfl, by decide +kernel⟩
  | 2, _, _, _, h => by cases h; exact ⟨ai_2, tyX2_ok, nmX2, aw_1_53, aw_1_4, rfl, rfl, rfl, by decide +kernel⟩
  | 3, _, _, _, h => by cases h; exact ⟨ai_3, tyX3_ok, nmX3, aw_1_133, aw_1_5, rfl, rfl, rfl, by decide +kernel⟩
  | 4, _, _, _, h => by cases h; exact ⟨ai_4, tyX4_ok, nmX4, aw_1_181, aw_1_7, rfl, rfl, rfl, by decide +kernel⟩
  | 5, _, _, _, h => by cases h; exact ⟨ai_5, tyX5_ok, nmX5, aw_1_26, aw_1_2, rfl, rfl, rfl, by decide +kernel⟩
  | 6, _, _, _, h => by cases h; exact ⟨ai_6, tyX6_ok, nmX6, aw_1_18, aw_1_1, rfl, rfl, rfl, by decide +kernel⟩
  | 7, _, _, _, h => by cases h; exact ⟨ai_7, tyX7_ok, nmX7, aw_3_180, aw_1_14, rfl, rfl, rfl, by decide +kernel⟩
  | k + 8, _, _, _, h => by cases h
theorem am_decl : ∀ (ci : Nat) (C : String) (T : u_T) (N : Nat), vwCl[ci]? = some (C, T, N) → ∀ k, k < N → (T k).1 = C
  | 0, _, _, _, h => by cases h; decide +kernel
  | 1, _, _, _, h => by cases h; decide +kernel
  | 2, _, _, _, h => by cases h; decide +kernel
  | 3, _, _, _, h => by cases h; decide +kernel
  | 4, _, _, _, h => by cases h; decide +kernel
  | 5, _, _, _, h => by cases h; decide +kernel
  | 6, _, _, _, h => by cases h; decide +kernel
  | 7, _, _, _, h => by cases h; decide +kernel
  | k + 8, _, _, _, h => by cases h
theorem am_mt_0 : am_mt[0]? = some (yX0_init, cX0_init, 1, none, 0, 0, 2, am_t0) := rfl
theorem am_mt_1 : am_mt[1]? = some (yX0_clear, cX0_clear, 1, none, 0, 0, 1, am_t1) := rfl
theorem am_mt_2 : am_mt[2]? = some (yX0_addPerson, cX0_addPerson, 2, (some .boolean), 0, 1, 1, am_t2) := rfl
theorem am_mt_3 : am_mt[3]? = some (yX0_tellHouses, cX0_tellHouses, 2, (some .boolean), 0, 1, 1, am_t3) := rfl
theorem am_mt_4 : am_mt[4]? = some (yX0_addWork, cX0_addWork, 3, (some .boolean), 0, 2, 1, am_t4) := rfl
theorem am_mt_5 : am_mt[5]? = some (yX0_addSubjects, cX0_addSubjects, 2, (some .boolean), 0, 1, 1, am_t5) := rfl
theorem am_mt_6 : am_mt[6]? = some (yX0_canBeLaid, cX0_canBeLaid, 2, (some .boolean), 0, 0, 1, am_t6) := rfl
theorem am_mt_7 : am_mt[7]? = some (yX0_talkedOf, cX0_talkedOf, 2, (some .int), 0, 1, 1, am_t7) := rfl
theorem am_mt_8 : am_mt[8]? = some (yX0_lightOfAll, cX0_lightOfAll, 5, (some .int), 0, 2, 1, am_t8) := rfl
theorem am_mt_9 : am_mt[9]? = some (yX0_worksLit, cX0_worksLit, 5, (some .int), 0, 2, 1, am_t9) := rfl
theorem am_mt_10 : am_mt[10]? = some (yX0_darkHouses, cX0_darkHouses, 5, (some .int), 0, 2, 1, am_t10) := rfl
theorem am_mt_11 : am_mt[11]? = some (yX1_init, cX1_init, 1, none, 1, 0, 2, am_t11) := rfl
theorem am_mt_12 : am_mt[12]? = some (yX1_search, cX1_search, 6, none, 1, 2, 1, am_t12) := rfl
theorem am_mt_13 : am_mt[13]? = some (yX1_settle, cX1_settle, 9, none, 1, 5, 0, am_t13) := rfl
theorem am_mt_14 : am_mt[14]? = some (yX1_lightAdded, cX1_lightAdded, 5, (some .int), 1, 2, 1, am_t14) := rfl
theorem am_mt_15 : am_mt[15]? = some (yX1_weigh, cX1_weigh, 6, none, 1, 2, 1, am_t15) := rfl
theorem am_mt_16 : am_mt[16]? = some (yX2_init, cX2_init, 1, none, 2, 0, 2, am_t16) := rfl
theorem am_mt_17 : am_mt[17]? = some (yX2_clear, cX2_clear, 1, none, 2, 0, 1, am_t17) := rfl
theorem am_mt_18 : am_mt[18]? = some (yX2_copy, cX2_copy, 2, none, 2, 1, 1, am_t18) := rfl
theorem am_mt_19 : am_mt[19]? = some (yX2_together, cX2_together, 3, (some .boolean), 2, 2, 1, am_t19) := rfl
theorem am_mt_20 : am_mt[20]? = some (yX2_quarrelOf, cX2_quarrelOf, 5, (some .int), 2, 3, 1, am_t20) := rfl
theorem am_mt_21 : am_mt[21]? = some (yX2_isFalsePair, cX2_isFalsePair, 3, (some .boolean), 2, 2, 1, am_t21) := rfl
theorem am_mt_22 : am_mt[22]? = some (yX2_lightOfTwo, cX2_lightOfTwo, 5, (some .int), 2, 3, 1, am_t22) := rfl
theorem am_mt_23 : am_mt[23]? = some (yX2_foesOf, cX2_foesOf, 5, (some .int), 2, 2, 1, am_t23) := rfl
theorem am_mt_24 : am_mt[24]? = some (yX2_residentsOf, cX2_residentsOf, 4, (some .int), 2, 1, 1, am_t24) := rfl
theorem am_mt_25 : am_mt[25]? = some (yX2_lightOf, cX2_lightOf, 6, (some .int), 2, 2, 1, am_t25) := rfl
theorem am_mt_26 : am_mt[26]? = some (yX2_hasSmoke, cX2_hasSmoke, 5, (some .boolean), 2, 2, 1, am_t26) := rfl
theorem am_mt_27 : am_mt[27]? = some (yX2_drawKinds, cX2_drawKinds, 5, none, 2, 2, 1, am_t27) := rfl
theorem am_mt_28 : am_mt[28]? = some (yX2_goBy, cX2_goBy, 3, none, 2, 1, 1, am_t28) := rfl
theorem am_mt_29 : am_mt[29]? = some (yX2_changeTempers, cX2_changeTempers, 4, none, 2, 0, 1, am_t29) := rfl
theorem am_mt_30 : am_mt[30]? = some (yX2_changeOpinions, cX2_changeOpinions, 4, none, 2, 0, 1, am_t30) := rfl
theorem am_mt_31 : am_mt[31]? = some (yX3_init, cX3_init, 2, none, 3, 0, 2, am_t31) := rfl
theorem am_mt_32 : am_mt[32]? = some (yX3_remember, cX3_remember, 2, none, 3, 1, 1, am_t32) := rfl
theorem am_mt_33 : am_mt[33]? = some (yX3_restore, cX3_restore, 2, (some .boolean), 3, 1, 1, am_t33) := rfl
theorem am_mt_34 : am_mt[34]? = some (yX4_init, cX4_init, 2, none, 4, 0, 2, am_t34) := rfl
theorem am_mt_35 : am_mt[35]? = some (yX4_search, cX4_search, 4, none, 4, 3, 1, am_t35) := rfl
theorem am_mt_36 : am_mt[36]? = some (yX4_discuss, cX4_discuss, 9, none, 4, 5, 0, am_t36) := rfl
theorem am_mt_37 : am_mt[37]? = some (yX4_weigh, cX4_weigh, 2, none, 4, 1, 1, am_t37) := rfl
theorem am_mt_38 : am_mt[38]? = some (yX5_init, cX5_init, 1, none, 5, 0, 2, am_t38) := rfl
theorem am_mt_39 : am_mt[39]? = some (yX5_append, cX5_append, 2, (some .boolean), 5, 1, 1, am_t39) := rfl
theorem am_mt_40 : am_mt[40]? = some (yX5_readInto, cX5_readInto, 4, (some .int), 5, 1, 1, am_t40) := rfl
theorem am_mt_41 : am_mt[41]? = some (yX5_readItem, cX5_readItem, 3, (some .boolean), 5, 1, 1, am_t41) := rfl
theorem am_mt_42 : am_mt[42]? = some (yX5_readNumbers, cX5_readNumbers, 5, (some .boolean), 5, 1, 1, am_t42) := rfl
theorem am_mt_43 : am_mt[43]? = some (yX5_readNumber, cX5_readNumber, 4, (some .int), 5, 0, 1, am_t43) := rfl
theorem am_mt_44 : am_mt[44]? = some (yX5_letterHere, cX5_letterHere, 1, (some .int), 5, 0, 1, am_t44) := rfl
theorem am_mt_45 : am_mt[45]? = some (yX6_init, cX6_init, 2, none, 6, 0, 2, am_t45) := rfl
theorem am_mt_46 : am_mt[46]? = some (yX6_write, cX6_write, 2, (some .int), 6, 1, 1, am_t46) := rfl
theorem am_mt_47 : am_mt[47]? = some (yX6_wipe, cX6_wipe, 2, (some .int), 6, 0, 1, am_t47) := rfl
theorem am_mt_48 : am_mt[48]? = some (yX6_fault, cX6_fault, 1, (some .int), 6, 0, 1, am_t48) := rfl
theorem am_mt_49 : am_mt[49]? = some (yX6_lay, cX6_lay, 1, (some .int), 6, 0, 1, am_t49) := rfl
theorem am_mt_50 : am_mt[50]? = some (yX6_person, cX6_person, 3, (some .int), 6, 2, 1, am_t50) := rfl
theorem am_mt_51 : am_mt[51]? = some (yX6_work, cX6_work, 3, (some .int), 6, 2, 1, am_t51) := rfl
theorem am_mt_52 : am_mt[52]? = some (yX6_pass, cX6_pass, 3, (some .int), 6, 1, 1, am_t52) := rfl
theorem am_mt_53 : am_mt[53]? = some (yX6_move, cX6_move, 4, (some .int), 6, 2, 1, am_t53) := rfl
theorem am_mt_54 : am_mt[54]? = some (yX6_alter, cX6_alter, 3, (some .int), 6, 2, 1, am_t54) := rfl
theorem am_mt_55 : am_mt[55]? = some (yX6_ration, cX6_ration, 2, (some .int), 6, 1, 1, am_t55) := rfl
theorem am_mt_56 : am_mt[56]? = some (yX6_undo, cX6_undo, 1, (some .int), 6, 0, 1, am_t56) := rfl
theorem am_mt_57 : am_mt[57]? = some (yX6_light, cX6_light, 4, (some .int), 6, 2, 1, am_t57) := rfl
theorem am_mt_58 : am_mt[58]? = some (yX6_lit, cX6_lit, 2, (some .int), 6, 1, 1, am_t58) := rfl
theorem am_mt_59 : am_mt[59]? = some (yX6_reach, cX6_reach, 5, (some .int), 6, 1, 1, am_t59) := rfl
theorem am_mt_60 : am_mt[60]? = some (yX6_first, cX6_first, 4, (some .int), 6, 0, 1, am_t60) := rfl
theorem am_mt_61 : am_mt[61]? = some (yX6_homes, cX6_homes, 2, (some .int), 6, 1, 1, am_t61) := rfl
theorem am_mt_62 : am_mt[62]? = some (yX6_apart, cX6_apart, 11, (some .int), 6, 3, 1, am_t62) := rfl
theorem am_mt_63 : am_mt[63]? = some (yX6_talk, cX6_talk, 3, (some .int), 6, 2, 1, am_t63) := rfl
theorem am_mt_64 : am_mt[64]? = some (yX6_settles, cX6_settles, 2, (some .int), 6, 0, 1, am_t64) := rfl
theorem am_mt_65 : am_mt[65]? = some (yX6_seen, cX6_seen, 3, (some .int), 6, 2, 1, am_t65) := rfl
theorem am_mt_66 : am_mt[66]? = some (yX6_forget, cX6_forget, 2, (some .int), 6, 0, 1, am_t66) := rfl
theorem am_mt_67 : am_mt[67]? = some (yX6_may, cX6_may, 6, (some .int), 6, 2, 1, am_t67) := rfl
theorem am_mt_68 : am_mt[68]? = some (yX6_smokes, cX6_smokes, 4, (some .int), 6, 0, 1, am_t68) := rfl
theorem am_mt_69 : am_mt[69]? = some (yX6_married, cX6_married, 3, (some .int), 6, 1, 1, am_t69) := rfl
theorem am_mt_70 : am_mt[70]? = some (yX6_falseBy, cX6_falseBy, 6, (some .int), 6, 3, 1, am_t70) := rfl
theorem am_mt_71 : am_mt[71]? = some (yX6_winter, cX6_winter, 8, (some .int), 6, 3, 1, am_t71) := rfl
theorem am_mt_72 : am_mt[72]? = some (yX6_keep, cX6_keep, 1, (some .int), 6, 0, 1, am_t72) := rfl
theorem am_mt_73 : am_mt[73]? = some (yX6_back, cX6_back, 1, (some .int), 6, 0, 1, am_t73) := rfl
theorem am_mt_74 : am_mt[74]? = some (yX6_count, cX6_count, 2, (some .int), 6, 1, 1, am_t74) := rfl
theorem am_mt_75 : am_mt[75]? = some (yX6_isPerson, cX6_isPerson, 2, (some .boolean), 6, 1, 1, am_t75) := rfl
theorem am_mt_76 : am_mt[76]? = some (yX6_isHouse, cX6_isHouse, 2, (some .boolean), 6, 1, 1, am_t76) := rfl
theorem am_mt_77 : am_mt[77]? = some (yX6_isSubject, cX6_isSubject, 1, (some .boolean), 6, 1, 0, am_t77) := rfl
theorem am_mt_78 : am_mt[78]? = some (yX6_layText, cX6_layText, 2, (some .boolean), 6, 0, 1, am_t78) := rfl
theorem am_mt_79 : am_mt[79]? = some (yX6_lookAhead, cX6_lookAhead, 3, none, 6, 1, 1, am_t79) := rfl
theorem am_mt_80 : am_mt[80]? = some (yX6_lightIfMoved, cX6_lightIfMoved, 3, (some .int), 6, 2, 1, am_t80) := rfl
theorem am_mt_81 : am_mt[81]? = some (yX6_nobodyAtOdds, cX6_nobodyAtOdds, 3, (some .boolean), 6, 2, 0, am_t81) := rfl
theorem am_mt_82 : am_mt[82]? = some (yX6_agreesWithSeen, cX6_agreesWithSeen, 4, (some .boolean), 6, 1, 1, am_t82) := rfl
theorem am_mt_83 : am_mt[83]? = some (yX6_marryMostUnlike, cX6_marryMostUnlike, 7, none, 6, 0, 1, am_t83) := rfl
theorem am_mt_84 : am_mt[84]? = some (yX6_smokingChances, cX6_smokingChances, 9, (some .int), 6, 2, 1, am_t84) := rfl
theorem am_mt_85 : am_mt[85]? = some (yX6_power, cX6_power, 4, (some .int), 6, 2, 0, am_t85) := rfl
theorem am_mt_86 : am_mt[86]? = some (yX6_inLowestTerms, cX6_inLowestTerms, 6, (some .int), 6, 3, 0, am_t86) := rfl
theorem am_mt_87 : am_mt[87]? = some (yX6_drawOf, cX6_drawOf, 4, (some .int), 6, 2, 0, am_t87) := rfl
theorem am_mt_88 : am_mt[88]? = some (yX6_alterByDraw, cX6_alterByDraw, 4, none, 6, 2, 1, am_t88) := rfl
theorem am_mt_89 : am_mt[89]? = some (yX7_in, cX7_in, 6, (some .boolean), 7, 3, 0, am_t89) := rfl
theorem am_mt_90 : am_mt[90]? = some (yX7_init, cX7_init, 1, none, 7, 0, 2, am_t90) := rfl
theorem am_mt_91 : am_mt[91]? = some (yX7_lives, cX7_lives, 6, none, 7, 4, 1, am_t91) := rfl
theorem am_mt_92 : am_mt[92]? = some (yX7_works, cX7_works, 4, none, 7, 3, 1, am_t92) := rfl
theorem am_mt_93 : am_mt[93]? = some (yX7_isPerson, cX7_isPerson, 2, (some .boolean), 7, 1, 1, am_t93) := rfl
theorem am_mt_94 : am_mt[94]? = some (yX7_isHouse, cX7_isHouse, 2, (some .boolean), 7, 1, 1, am_t94) := rfl
theorem am_mt_95 : am_mt[95]? = some (yX7_isSubject, cX7_isSubject, 1, (some .boolean), 7, 1, 0, am_t95) := rfl
theorem am_mt_96 : am_mt[96]? = some (yX7_opinions, cX7_opinions, 2, (some .int), 7, 1, 1, am_t96) := rfl
theorem am_mt_97 : am_mt[97]? = some (yX7_temper, cX7_temper, 2, (some .int), 7, 1, 1, am_t97) := rfl
theorem am_mt_98 : am_mt[98]? = some (yX7_house, cX7_house, 2, (some .int), 7, 1, 1, am_t98) := rfl
theorem am_mt_99 : am_mt[99]? = some (yX7_write, cX7_write, 2, (some .int), 7, 1, 1, am_t99) := rfl
theorem am_mt_100 : am_mt[100]? = some (yX7_wipe, cX7_wipe, 2, (some .int), 7, 0, 1, am_t100) := rfl
theorem am_mt_101 : am_mt[101]? = some (yX7_isFigure, cX7_isFigure, 1, (some .boolean), 7, 0, 1, am_t101) := rfl
theorem am_mt_102 : am_mt[102]? = some (yX7_number, cX7_number, 5, (some .boolean), 7, 3, 1, am_t102) := rfl
theorem am_mt_103 : am_mt[103]? = some (yX7_readPerson, cX7_readPerson, 4, (some .boolean), 7, 0, 1, am_t103) := rfl
theorem am_mt_104 : am_mt[104]? = some (yX7_readWork, cX7_readWork, 2, (some .boolean), 7, 0, 1, am_t104) := rfl
theorem am_mt_105 : am_mt[105]? = some (yX7_readTalk, cX7_readTalk, 1, (some .boolean), 7, 0, 1, am_t105) := rfl
theorem am_mt_106 : am_mt[106]? = some (yX7_item, cX7_item, 3, (some .boolean), 7, 0, 1, am_t106) := rfl
theorem am_mt_107 : am_mt[107]? = some (yX7_fault, cX7_fault, 2, (some .int), 7, 0, 1, am_t107) := rfl
theorem am_mt_108 : am_mt[108]? = some (yX7_lay, cX7_lay, 2, (some .int), 7, 0, 1, am_t108) := rfl
theorem am_mt_109 : am_mt[109]? = some (yX7_many, cX7_many, 3, (some .int), 7, 1, 0, am_t109) := rfl
theorem am_mt_110 : am_mt[110]? = some (yX7_speaks, cX7_speaks, 2, (some .boolean), 7, 1, 1, am_t110) := rfl
theorem am_mt_111 : am_mt[111]? = some (yX7_odds, cX7_odds, 4, (some .int), 7, 3, 1, am_t111) := rfl
theorem am_mt_112 : am_mt[112]? = some (yX7_talkedOf, cX7_talkedOf, 1, (some .int), 7, 0, 1, am_t112) := rfl
theorem am_mt_113 : am_mt[113]? = some (yX7_burns, cX7_burns, 7, none, 7, 1, 1, am_t113) := rfl
theorem am_mt_114 : am_mt[114]? = some (yX7_allLight, cX7_allLight, 3, (some .int), 7, 0, 1, am_t114) := rfl
theorem am_mt_115 : am_mt[115]? = some (yX7_allLit, cX7_allLit, 3, (some .int), 7, 0, 1, am_t115) := rfl
theorem am_mt_116 : am_mt[116]? = some (yX7_angers, cX7_angers, 4, none, 7, 2, 1, am_t116) := rfl
theorem am_mt_117 : am_mt[117]? = some (yX7_meets, cX7_meets, 4, none, 7, 1, 1, am_t117) := rfl
theorem am_mt_118 : am_mt[118]? = some (yX7_goesBy, cX7_goesBy, 5, none, 7, 1, 1, am_t118) := rfl
theorem am_mt_119 : am_mt[119]? = some (yX7_goesOn, cX7_goesOn, 3, none, 7, 1, 1, am_t119) := rfl
theorem am_mt_120 : am_mt[120]? = some (yX7_person, cX7_person, 3, (some .int), 7, 2, 1, am_t120) := rfl
theorem am_mt_121 : am_mt[121]? = some (yX7_work, cX7_work, 3, (some .int), 7, 2, 1, am_t121) := rfl
theorem am_mt_122 : am_mt[122]? = some (yX7_notes, cX7_notes, 2, none, 7, 0, 1, am_t122) := rfl
theorem am_mt_123 : am_mt[123]? = some (yX7_pass, cX7_pass, 2, (some .int), 7, 1, 1, am_t123) := rfl
theorem am_mt_124 : am_mt[124]? = some (yX7_move, cX7_move, 4, (some .int), 7, 2, 1, am_t124) := rfl
theorem am_mt_125 : am_mt[125]? = some (yX7_alter, cX7_alter, 3, (some .int), 7, 2, 1, am_t125) := rfl
theorem am_mt_126 : am_mt[126]? = some (yX7_ration, cX7_ration, 2, (some .int), 7, 1, 1, am_t126) := rfl
theorem am_mt_127 : am_mt[127]? = some (yX7_undo, cX7_undo, 2, (some .int), 7, 0, 1, am_t127) := rfl
theorem am_mt_128 : am_mt[128]? = some (yX7_asides, cX7_asides, 2, none, 7, 0, 1, am_t128) := rfl
theorem am_mt_129 : am_mt[129]? = some (yX7_backs, cX7_backs, 2, none, 7, 0, 1, am_t129) := rfl
theorem am_mt_130 : am_mt[130]? = some (yX7_burnsIn, cX7_burnsIn, 2, none, 7, 1, 1, am_t130) := rfl
theorem am_mt_131 : am_mt[131]? = some (yX7_light, cX7_light, 3, (some .int), 7, 2, 1, am_t131) := rfl
theorem am_mt_132 : am_mt[132]? = some (yX7_lit, cX7_lit, 2, (some .int), 7, 1, 1, am_t132) := rfl
theorem am_mt_133 : am_mt[133]? = some (yX7_reach, cX7_reach, 4, (some .int), 7, 1, 1, am_t133) := rfl
theorem am_mt_134 : am_mt[134]? = some (yX7_first, cX7_first, 3, (some .int), 7, 0, 1, am_t134) := rfl
theorem am_mt_135 : am_mt[135]? = some (yX7_movers, cX7_movers, 3, (some .int), 7, 0, 1, am_t135) := rfl
theorem am_mt_136 : am_mt[136]? = some (yX7_isNext, cX7_isNext, 2, (some .boolean), 7, 0, 1, am_t136) := rfl
theorem am_mt_137 : am_mt[137]? = some (yX7_seeksHomes, cX7_seeksHomes, 6, none, 7, 0, 1, am_t137) := rfl
theorem am_mt_138 : am_mt[138]? = some (yX7_homes, cX7_homes, 2, (some .int), 7, 1, 1, am_t138) := rfl
theorem am_mt_139 : am_mt[139]? = some (yX7_apart, cX7_apart, 13, (some .int), 7, 3, 1, am_t139) := rfl
theorem am_mt_140 : am_mt[140]? = some (yX7_talk, cX7_talk, 12, (some .int), 7, 2, 1, am_t140) := rfl
theorem am_mt_141 : am_mt[141]? = some (yX7_settles, cX7_settles, 5, (some .int), 7, 0, 1, am_t141) := rfl
theorem am_mt_142 : am_mt[142]? = some (yX7_seen, cX7_seen, 3, (some .int), 7, 2, 1, am_t142) := rfl
theorem am_mt_143 : am_mt[143]? = some (yX7_forget, cX7_forget, 2, (some .int), 7, 0, 1, am_t143) := rfl
theorem am_mt_144 : am_mt[144]? = some (yX7_may, cX7_may, 9, (some .int), 7, 2, 1, am_t144) := rfl
theorem am_mt_145 : am_mt[145]? = some (yX7_smokes, cX7_smokes, 1, (some .int), 7, 0, 1, am_t145) := rfl
theorem am_mt_146 : am_mt[146]? = some (yX7_married, cX7_married, 11, (some .int), 7, 1, 1, am_t146) := rfl
theorem am_mt_147 : am_mt[147]? = some (yX7_isSmoke, cX7_isSmoke, 9, (some .boolean), 7, 3, 1, am_t147) := rfl
theorem am_mt_148 : am_mt[148]? = some (yX7_falseBy, cX7_falseBy, 11, (some .int), 7, 3, 1, am_t148) := rfl
theorem am_mt_149 : am_mt[149]? = some (yX7_winter, cX7_winter, 11, (some .int), 7, 3, 1, am_t149) := rfl
theorem am_mt_150 : am_mt[150]? = some (yX7_keep, cX7_keep, 2, (some .int), 7, 0, 1, am_t150) := rfl
theorem am_mt_151 : am_mt[151]? = some (yX7_back, cX7_back, 2, (some .int), 7, 0, 1, am_t151) := rfl
theorem am_mt_152 : am_mt[152]? = some (yX7_count, cX7_count, 2, (some .int), 7, 1, 1, am_t152) := rfl
theorem am_mt_153 : am_mt[153]? = some (yJ6_bitCount_0f7a4, cJ6_bitCount_0f7a4, 1, (some .int), 10, 1, 0, am_t153) := rfl
theorem am_mt_154 : am_mt[154]? = some (yJ9_floorMod_7cf53, cJ9_floorMod_7cf53, 3, (some .int), 11, 2, 0, am_t154) := rfl
theorem am_mt_155 : am_mt[155]? = some (yJ7_fill_53178, cJ7_fill_53178, 4, none, 14, 2, 0, am_t155) := rfl
theorem am_mt_156 : am_mt[156]? = some (yJ0_length_8abf5, cJ0_length_8abf5, 1, (some .int), 12, 0, 1, am_t156) := rfl
theorem am_mt_157 : am_mt[157]? = some (yJ0_coder_7d493, cJ0_coder_7d493, 1, (some .byte), 12, 0, 1, am_t157) := rfl
theorem am_mt_158 : am_mt[158]? = some (yJ0_charAt_5068e, cJ0_charAt_5068e, 2, (some .char), 12, 1, 1, am_t158) := rfl
theorem am_mt_159 : am_mt[159]? = some (yJ0_isLatin1_aae02, cJ0_isLatin1_aae02, 1, (some .boolean), 12, 0, 1, am_t159) := rfl
theorem am_mt_160 : am_mt[160]? = some (yJ1_charAt_3b067, cJ1_charAt_3b067, 2, (some .char), 13, 2, 0, am_t160) := rfl
theorem am_mt_161 : am_mt[161]? = some (yJ9_min_7cf53, cJ9_min_7cf53, 2, (some .int), 11, 2, 0, am_t161) := rfl
theorem am_mt_162 : am_mt[162]? = some (yJ9_max_7cf53, cJ9_max_7cf53, 2, (some .int), 11, 2, 0, am_t162) := rfl
theorem am_mt_163 : am_mt[163]? = some (yJ0_checkIndex_df160, cJ0_checkIndex_df160, 2, none, 12, 2, 0, am_t163) := rfl
theorem am_mt_164 : am_mt[164]? = some (yJ3_checkIndex_8e157, cJ3_checkIndex_8e157, 3, (some .int), 15, 3, 0, am_t164) := rfl
def am_fP (q : (Nat × Nat) × (Nat × Nat)) : Prop := (q.2.1 = 100 ∧ ((q.2.2 = 0 ∧ Cond.fieldLink (am_on q.1.1) q.1.2 "java/lang/String" "value" "[B" ∈ am_bw) ∨ (q.2.2 = 1 ∧ Cond.fieldLink (am_on q.1.1) q.1.2 "java/lang/String" "coder" "B" ∈ am_bw))) ∨ ∃ (C : String) (T : u_T) (N : Nat), vwCl[q.2.1]? = some (C, T, N) ∧ q.2.2 < N ∧ (Cond.fieldLink (am_on q.1.1) q.1.2 (T q.2.2).1 (T q.2.2).2.1 (T q.2.2).2.2.1 ∈ am_bw ∨ (q.1.1 ≠ q.2.1 ∧ ∃ host, Cond.fieldLinkNest (am_on q.1.1) q.1.2 (T q.2.2).1 (T q.2.2).2.1 (T q.2.2).2.2.1 host ∈ am_nest))
theorem af_0 : am_fP ((0, 12), (0, 0)) := Or.inr ⟨_, _, _, rfl, by decide, Or.inl aw_1_94⟩
theorem af_1 : am_fP ((0, 18), (0, 1)) := Or.inr ⟨_, _, _, rfl, by decide, Or.inl aw_1_96⟩
theorem af_2 : am_fP ((0, 22), (0, 2)) := Or.inr ⟨_, _, _, rfl, by decide, Or.inl aw_1_99⟩
theorem af_3 : am_fP ((0, 25), (0, 3)) := Or.inr ⟨_, _, _, rfl, by decide, Or.inl aw_1_102⟩
theorem af_4 : am_fP ((0, 31), (0, 4)) := Or.inr ⟨_, _, _, rfl, by decide, Or.inl aw_1_103⟩
theorem af_5 : am_fP ((0, 35), (0, 5)) := Or.inr ⟨_, _, _, rfl, by decide, Or.inl aw_1_106⟩
theorem af_6 : am_fP ((0, 38), (0, 6)) := Or.inr ⟨_, _, _, rfl, by decide, Or.inl aw_1_109⟩
theorem af_7 : am_fP ((0, 41), (0, 7)) := Or.inr ⟨_, _, _, rfl, by decide, Or.inl aw_1_112⟩
theorem af_8 : am_fP ((0, 44), (2, 0)) := Or.inr ⟨_, _, _, rfl, by decide, Or.inr ⟨by decide, _, List.mem_of_getElem? (i := 1) rfl⟩⟩
theorem af_9 : am_fP ((0, 47), (2, 1)) := Or.inr ⟨_, _, _, rfl, by decide, Or.inr ⟨by decide, _, List.mem_of_getElem? (i := 3) rfl⟩⟩
theorem af_10 : am_fP ((0, 50), (2, 2)) := Or.inr ⟨_, _, _, rfl, by decide, Or.inr ⟨by decide, _, List.mem_of_getElem? (i := 5) rfl⟩⟩
theorem af_11 : am_fP ((0, 53), (2, 3)) := Or.inr ⟨_, _, _, rfl, by decide, Or.inr ⟨by decide, _, List.mem_of_getElem? (i := 8) rfl⟩⟩
theorem af_12 : am_fP ((0, 56), (2, 6)) := Or.inr ⟨_, _, _, rfl, by decide, Or.inr ⟨by decide, _, List.mem_of_getElem? (i := 13) rfl⟩⟩
theorem af_13 : am_fP ((0, 59), (2, 5)) := Or.inr ⟨_, _, _, rfl, by decide, Or.inr ⟨by decide, _, List.mem_of_getElem? (i := 11) rfl⟩⟩
theorem af_14 : am_fP ((1, 9), (1, 0)) := Or.inr ⟨_, _, _, rfl, by decide, Or.inl aw_1_158⟩
theorem af_15 : am_fP ((1, 15), (1, 1)) := Or.inr ⟨_, _, _, rfl, by decide, Or.inl aw_1_159⟩
theorem af_16 : am_fP ((1, 18), (1, 2)) := Or.inr ⟨_, _, _, rfl, by decide, Or.inl aw_1_160⟩
theorem af_17 : am_fP ((1, 21), (1, 3)) := Or.inr ⟨_, _, _, rfl, by decide, Or.inl aw_1_161⟩
theorem af_18 : am_fP ((1, 41), (1, 4)) := Or.inr ⟨_, _, _, rfl, by decide, Or.inl aw_1_163⟩
theorem af_19 : am_fP ((1, 45), (1, 5)) := Or.inr ⟨_, _, _, rfl, by decide, Or.inl aw_1_165⟩
theorem af_20 : am_fP ((1, 52), (0, 5)) := Or.inr ⟨_, _, _, rfl, by decide, Or.inr ⟨by decide, _, List.mem_of_getElem? (i := 22) rfl⟩⟩
theorem af_21 : am_fP ((1, 59), (0, 4)) := Or.inr ⟨_, _, _, rfl, by decide, Or.inr ⟨by decide, _, List.mem_of_getElem? (i := 20) rfl⟩⟩
theorem af_22 : am_fP ((1, 62), (2, 3)) := Or.inr ⟨_, _, _, rfl, by decide, Or.inr ⟨by decide, _, List.mem_of_getElem? (i := 7) rfl⟩⟩
theorem af_23 : am_fP ((1, 65), (0, 6)) := Or.inr ⟨_, _, _, rfl, by decide, Or.inr ⟨by decide, _, List.mem_of_getElem? (i := 24) rfl⟩⟩
theorem af_24 : am_fP ((1, 72), (0, 1)) := Or.inr ⟨_, _, _, rfl, by decide, Or.inr ⟨by decide, _, List.mem_of_getElem? (i := 16) rfl⟩⟩
theorem af_25 : am_fP ((1, 75), (0, 2)) := Or.inr ⟨_, _, _, rfl, by decide, Or.inr ⟨by decide, _, List.mem_of_getElem? (i := 18) rfl⟩⟩
theorem af_26 : am_fP ((2, 9), (2, 0)) := Or.inr ⟨_, _, _, rfl, by decide, Or.inl aw_1_58⟩
theorem af_27 : am_fP ((2, 15), (2, 1)) := Or.inr ⟨_, _, _, rfl, by decide, Or.inl aw_1_61⟩
theorem af_28 : am_fP ((2, 18), (2, 2)) := Or.inr ⟨_, _, _, rfl, by decide, Or.inl aw_1_64⟩
theorem af_29 : am_fP ((2, 21), (2, 3)) := Or.inr ⟨_, _, _, rfl, by decide, Or.inl aw_1_67⟩
theorem af_30 : am_fP ((2, 24), (2, 4)) := Or.inr ⟨_, _, _, rfl, by decide, Or.inl aw_1_71⟩
theorem af_31 : am_fP ((2, 33), (2, 5)) := Or.inr ⟨_, _, _, rfl, by decide, Or.inl aw_1_72⟩
theorem af_32 : am_fP ((2, 37), (2, 6)) := Or.inr ⟨_, _, _, rfl, by decide, Or.inl aw_1_75⟩
theorem af_33 : am_fP ((3, 11), (3, 0)) := Or.inr ⟨_, _, _, rfl, by decide, Or.inl aw_1_141⟩
theorem af_34 : am_fP ((3, 18), (3, 1)) := Or.inr ⟨_, _, _, rfl, by decide, Or.inl aw_1_142⟩
theorem af_35 : am_fP ((3, 26), (3, 2)) := Or.inr ⟨_, _, _, rfl, by decide, Or.inl aw_1_143⟩
theorem af_36 : am_fP ((4, 11), (4, 0)) := Or.inr ⟨_, _, _, rfl, by decide, Or.inl aw_1_188⟩
theorem af_37 : am_fP ((4, 17), (4, 1)) := Or.inr ⟨_, _, _, rfl, by decide, Or.inl aw_1_189⟩
theorem af_38 : am_fP ((4, 21), (4, 2)) := Or.inr ⟨_, _, _, rfl, by decide, Or.inl aw_1_190⟩
theorem af_39 : am_fP ((4, 29), (4, 3)) := Or.inr ⟨_, _, _, rfl, by decide, Or.inl aw_1_192⟩
theorem af_40 : am_fP ((4, 41), (2, 6)) := Or.inr ⟨_, _, _, rfl, by decide, Or.inr ⟨by decide, _, List.mem_of_getElem? (i := 12) rfl⟩⟩
theorem af_41 : am_fP ((5, 9), (5, 0)) := Or.inr ⟨_, _, _, rfl, by decide, Or.inl aw_1_31⟩
theorem af_42 : am_fP ((5, 15), (5, 1)) := Or.inr ⟨_, _, _, rfl, by decide, Or.inl aw_1_32⟩
theorem af_43 : am_fP ((5, 18), (5, 2)) := Or.inr ⟨_, _, _, rfl, by decide, Or.inl aw_1_34⟩
theorem af_44 : am_fP ((5, 27), (5, 3)) := Or.inr ⟨_, _, _, rfl, by decide, Or.inl aw_1_35⟩
theorem af_45 : am_fP ((6, 10), (6, 0)) := Or.inr ⟨_, _, _, rfl, by decide, Or.inl aw_2_78⟩
theorem af_46 : am_fP ((6, 19), (6, 1)) := Or.inr ⟨_, _, _, rfl, by decide, Or.inl aw_2_79⟩
theorem af_47 : am_fP ((6, 23), (6, 2)) := Or.inr ⟨_, _, _, rfl, by decide, Or.inl aw_2_80⟩
theorem af_48 : am_fP ((6, 29), (6, 3)) := Or.inr ⟨_, _, _, rfl, by decide, Or.inl aw_2_81⟩
theorem af_49 : am_fP ((6, 33), (6, 4)) := Or.inr ⟨_, _, _, rfl, by decide, Or.inl aw_2_82⟩
theorem af_50 : am_fP ((6, 39), (6, 5)) := Or.inr ⟨_, _, _, rfl, by decide, Or.inl aw_2_83⟩
theorem af_51 : am_fP ((6, 43), (6, 6)) := Or.inr ⟨_, _, _, rfl, by decide, Or.inl aw_2_84⟩
theorem af_52 : am_fP ((6, 47), (6, 8)) := Or.inr ⟨_, _, _, rfl, by decide, Or.inl aw_2_86⟩
theorem af_53 : am_fP ((6, 51), (6, 9)) := Or.inr ⟨_, _, _, rfl, by decide, Or.inl aw_2_87⟩
theorem af_54 : am_fP ((6, 57), (6, 11)) := Or.inr ⟨_, _, _, rfl, by decide, Or.inl aw_2_89⟩
theorem af_55 : am_fP ((6, 64), (6, 12)) := Or.inr ⟨_, _, _, rfl, by decide, Or.inl aw_2_90⟩
theorem af_56 : am_fP ((6, 68), (6, 13)) := Or.inr ⟨_, _, _, rfl, by decide, Or.inl aw_2_91⟩
theorem af_57 : am_fP ((6, 91), (5, 2)) := Or.inr ⟨_, _, _, rfl, by decide, Or.inr ⟨by decide, _, List.mem_of_getElem? (i := 0) rfl⟩⟩
theorem af_58 : am_fP ((6, 98), (0, 5)) := Or.inr ⟨_, _, _, rfl, by decide, Or.inr ⟨by decide, _, List.mem_of_getElem? (i := 23) rfl⟩⟩
theorem af_59 : am_fP ((6, 104), (2, 0)) := Or.inr ⟨_, _, _, rfl, by decide, Or.inr ⟨by decide, _, List.mem_of_getElem? (i := 2) rfl⟩⟩
theorem af_60 : am_fP ((6, 107), (2, 1)) := Or.inr ⟨_, _, _, rfl, by decide, Or.inr ⟨by decide, _, List.mem_of_getElem? (i := 4) rfl⟩⟩
theorem af_61 : am_fP ((6, 110), (2, 2)) := Or.inr ⟨_, _, _, rfl, by decide, Or.inr ⟨by decide, _, List.mem_of_getElem? (i := 6) rfl⟩⟩
theorem af_62 : am_fP ((6, 113), (2, 3)) := Or.inr ⟨_, _, _, rfl, by decide, Or.inr ⟨by decide, _, List.mem_of_getElem? (i := 9) rfl⟩⟩
theorem af_63 : am_fP ((6, 124), (0, 6)) := Or.inr ⟨_, _, _, rfl, by decide, Or.inr ⟨by decide, _, List.mem_of_getElem? (i := 25) rfl⟩⟩
theorem af_64 : am_fP ((6, 127), (0, 1)) := Or.inr ⟨_, _, _, rfl, by decide, Or.inr ⟨by decide, _, List.mem_of_getElem? (i := 17) rfl⟩⟩
theorem af_65 : am_fP ((6, 130), (0, 2)) := Or.inr ⟨_, _, _, rfl, by decide, Or.inr ⟨by decide, _, List.mem_of_getElem? (i := 19) rfl⟩⟩
theorem af_66 : am_fP ((6, 137), (2, 5)) := Or.inr ⟨_, _, _, rfl, by decide, Or.inr ⟨by decide, _, List.mem_of_getElem? (i := 10) rfl⟩⟩
theorem af_67 : am_fP ((6, 154), (2, 6)) := Or.inr ⟨_, _, _, rfl, by decide, Or.inr ⟨by decide, _, List.mem_of_getElem? (i := 14) rfl⟩⟩
theorem af_68 : am_fP ((6, 161), (3, 2)) := Or.inr ⟨_, _, _, rfl, by decide, Or.inr ⟨by decide, _, List.mem_of_getElem? (i := 26) rfl⟩⟩
theorem af_69 : am_fP ((6, 176), (0, 4)) := Or.inr ⟨_, _, _, rfl, by decide, Or.inr ⟨by decide, _, List.mem_of_getElem? (i := 21) rfl⟩⟩
theorem af_70 : am_fP ((6, 186), (1, 4)) := Or.inr ⟨_, _, _, rfl, by decide, Or.inr ⟨by decide, _, List.mem_of_getElem? (i := 28) rfl⟩⟩
theorem af_71 : am_fP ((6, 189), (1, 5)) := Or.inr ⟨_, _, _, rfl, by decide, Or.inr ⟨by decide, _, List.mem_of_getElem? (i := 29) rfl⟩⟩
theorem af_72 : am_fP ((6, 192), (1, 3)) := Or.inr ⟨_, _, _, rfl, by decide, Or.inr ⟨by decide, _, List.mem_of_getElem? (i := 27) rfl⟩⟩
theorem af_73 : am_fP ((6, 213), (4, 3)) := Or.inr ⟨_, _, _, rfl, by decide, Or.inr ⟨by decide, _, List.mem_of_getElem? (i := 31) rfl⟩⟩
theorem af_74 : am_fP ((6, 216), (4, 2)) := Or.inr ⟨_, _, _, rfl, by decide, Or.inr ⟨by decide, _, List.mem_of_getElem? (i := 30) rfl⟩⟩
theorem af_75 : am_fP ((6, 221), (6, 10)) := Or.inr ⟨_, _, _, rfl, by decide, Or.inl aw_2_88⟩
theorem af_76 : am_fP ((6, 265), (6, 7)) := Or.inr ⟨_, _, _, rfl, by decide, Or.inl aw_2_85⟩
theorem af_77 : am_fP ((6, 271), (0, 0)) := Or.inr ⟨_, _, _, rfl, by decide, Or.inr ⟨by decide, _, List.mem_of_getElem? (i := 15) rfl⟩⟩
theorem af_78 : am_fP ((7, 7), (7, 0)) := Or.inr ⟨_, _, _, rfl, by decide, Or.inl aw_3_193⟩
theorem af_79 : am_fP ((7, 13), (7, 1)) := Or.inr ⟨_, _, _, rfl, by decide, Or.inl aw_3_194⟩
theorem af_80 : am_fP ((7, 16), (7, 2)) := Or.inr ⟨_, _, _, rfl, by decide, Or.inl aw_3_195⟩
theorem af_81 : am_fP ((7, 19), (7, 5)) := Or.inr ⟨_, _, _, rfl, by decide, Or.inl aw_3_198⟩
theorem af_82 : am_fP ((7, 22), (7, 6)) := Or.inr ⟨_, _, _, rfl, by decide, Or.inl aw_3_199⟩
theorem af_83 : am_fP ((7, 25), (7, 9)) := Or.inr ⟨_, _, _, rfl, by decide, Or.inl aw_3_202⟩
theorem af_84 : am_fP ((7, 28), (7, 11)) := Or.inr ⟨_, _, _, rfl, by decide, Or.inl aw_3_204⟩
theorem af_85 : am_fP ((7, 31), (7, 12)) := Or.inr ⟨_, _, _, rfl, by decide, Or.inl aw_3_205⟩
theorem af_86 : am_fP ((7, 34), (7, 14)) := Or.inr ⟨_, _, _, rfl, by decide, Or.inl aw_3_207⟩
theorem af_87 : am_fP ((7, 37), (7, 15)) := Or.inr ⟨_, _, _, rfl, by decide, Or.inl aw_3_208⟩
theorem af_88 : am_fP ((7, 40), (7, 18)) := Or.inr ⟨_, _, _, rfl, by decide, Or.inl aw_3_211⟩
theorem af_89 : am_fP ((7, 43), (7, 19)) := Or.inr ⟨_, _, _, rfl, by decide, Or.inl aw_3_212⟩
theorem af_90 : am_fP ((7, 46), (7, 21)) := Or.inr ⟨_, _, _, rfl, by decide, Or.inl aw_3_214⟩
theorem af_91 : am_fP ((7, 67), (7, 3)) := Or.inr ⟨_, _, _, rfl, by decide, Or.inl aw_3_196⟩
theorem af_92 : am_fP ((7, 71), (7, 4)) := Or.inr ⟨_, _, _, rfl, by decide, Or.inl aw_3_197⟩
theorem af_93 : am_fP ((7, 82), (7, 8)) := Or.inr ⟨_, _, _, rfl, by decide, Or.inl aw_3_201⟩
theorem af_94 : am_fP ((7, 88), (7, 7)) := Or.inr ⟨_, _, _, rfl, by decide, Or.inl aw_3_200⟩
theorem af_95 : am_fP ((7, 108), (7, 20)) := Or.inr ⟨_, _, _, rfl, by decide, Or.inl aw_3_213⟩
theorem af_96 : am_fP ((7, 111), (7, 13)) := Or.inr ⟨_, _, _, rfl, by decide, Or.inl aw_3_206⟩
theorem af_97 : am_fP ((7, 114), (7, 22)) := Or.inr ⟨_, _, _, rfl, by decide, Or.inl aw_3_215⟩
theorem af_98 : am_fP ((7, 134), (7, 10)) := Or.inr ⟨_, _, _, rfl, by decide, Or.inl aw_3_203⟩
theorem af_99 : am_fP ((7, 194), (7, 16)) := Or.inr ⟨_, _, _, rfl, by decide, Or.inl aw_3_209⟩
theorem af_100 : am_fP ((7, 200), (7, 17)) := Or.inr ⟨_, _, _, rfl, by decide, Or.inl aw_3_210⟩
theorem af_101 : am_fP ((12, 9), (100, 0)) := Or.inl ⟨rfl, Or.inl ⟨rfl, aw_5_40⟩⟩
theorem af_102 : am_fP ((12, 15), (100, 1)) := Or.inl ⟨rfl, Or.inr ⟨rfl, aw_5_41⟩⟩
theorem af_all : ∀ q ∈ am_fT, am_fP q := List.forall_mem_cons.mpr ⟨af_0, List.forall_mem_cons.mpr ⟨af_1, List.forall_mem_cons.mpr ⟨af_2, List.forall_mem_cons.mpr ⟨af_3, List.forall_mem_cons.mpr ⟨af_4, List.forall_mem_cons.mpr ⟨af_5, List.forall_mem_cons.mpr ⟨af_6, List.forall_mem_cons.mpr ⟨af_7, List.forall_mem_cons.mpr ⟨af_8, List.forall_mem_cons.mpr ⟨af_9, List.forall_mem_cons.mpr ⟨af_10, List.forall_mem_cons.mpr ⟨af_11, List.forall_mem_cons.mpr ⟨af_12, List.forall_mem_cons.mpr ⟨af_13, List.forall_mem_cons.mpr ⟨af_14, List.forall_mem_cons.mpr ⟨af_15, List.forall_mem_cons.mpr ⟨af_16, List.forall_mem_cons.mpr ⟨af_17, List.forall_mem_cons.mpr ⟨af_18, List.forall_mem_cons.mpr ⟨af_19, List.forall_mem_cons.mpr ⟨af_20, List.forall_mem_cons.mpr ⟨af_21, List.forall_mem_cons.mpr ⟨af_22, List.forall_mem_cons.mpr ⟨af_23, List.forall_mem_cons.mpr ⟨af_24, List.forall_mem_cons.mpr ⟨af_25, List.forall_mem_cons.mpr ⟨af_26, List.forall_mem_cons.mpr ⟨af_27, List.forall_mem_cons.mpr ⟨af_28, List.forall_mem_cons.mpr ⟨af_29, List.forall_mem_cons.mpr ⟨af_30, List.forall_mem_cons.mpr ⟨af_31, List.forall_mem_cons.mpr ⟨af_32, List.forall_mem_cons.mpr ⟨af_33, List.forall_mem_cons.mpr ⟨af_34, List.forall_mem_cons.mpr ⟨af_35, List.forall_mem_cons.mpr ⟨af_36, List.forall_mem_cons.mpr ⟨af_37, List.forall_mem_cons.mpr ⟨af_38, List.forall_mem_cons.mpr ⟨af_39, List.forall_mem_cons.mpr ⟨af_40, List.forall_mem_cons.mpr ⟨af_41, List.forall_mem_cons.mpr ⟨af_42, List.forall_mem_cons.mpr ⟨af_43, List.forall_mem_cons.mpr ⟨af_44, List.forall_mem_cons.mpr ⟨af_45, List.forall_mem_cons.mpr ⟨af_46, List.forall_mem_cons.mpr ⟨af_47, List.forall_mem_cons.mpr ⟨af_48, List.forall_mem_cons.mpr ⟨af_49, List.forall_mem_cons.mpr ⟨af_50, List.forall_mem_cons.mpr ⟨af_51, List.forall_mem_cons.mpr ⟨af_52, List.forall_mem_cons.mpr ⟨af_53, List.forall_mem_cons.mpr ⟨af_54, List.forall_mem_cons.mpr ⟨af_55, List.forall_mem_cons.mpr ⟨af_56, List.forall_mem_cons.mpr ⟨af_57, List.forall_mem_cons.mpr ⟨af_58, List.forall_mem_cons.mpr ⟨af_59, List.forall_mem_cons.mpr ⟨af_60, List.forall_mem_cons.mpr ⟨af_61, List.forall_mem_cons.mpr ⟨af_62, List.forall_mem_cons.mpr ⟨af_63, List.forall_mem_cons.mpr ⟨af_64, List.forall_mem_cons.mpr ⟨af_65, List.forall_mem_cons.mpr ⟨af_66, List.forall_mem_cons.mpr ⟨af_67, List.forall_mem_cons.mpr ⟨af_68, List.forall_mem_cons.mpr ⟨af_69, List.forall_mem_cons.mpr ⟨af_70, List.forall_mem_cons.mpr ⟨af_71, List.forall_mem_cons.mpr ⟨af_72, List.forall_mem_cons.mpr ⟨af_73, List.forall_mem_cons.mpr ⟨af_74, List.forall_mem_cons.mpr ⟨af_75, List.forall_mem_cons.mpr ⟨af_76, List.forall_mem_cons.mpr ⟨af_77, List.forall_mem_cons.mpr ⟨af_78, List.forall_mem_cons.mpr ⟨af_79, List.forall_mem_cons.mpr ⟨af_80, List.forall_mem_cons.mpr ⟨af_81, List.forall_mem_cons.mpr ⟨af_82, List.forall_mem_cons.mpr ⟨af_83, List.forall_mem_cons.mpr ⟨af_84, List.forall_mem_cons.mpr ⟨af_85, List.forall_mem_cons.mpr ⟨af_86, List.forall_mem_cons.mpr ⟨af_87, List.forall_mem_cons.mpr ⟨af_88, List.forall_mem_cons.mpr ⟨af_89, List.forall_mem_cons.mpr ⟨af_90, List.forall_mem_cons.mpr ⟨af_91, List.forall_mem_cons.mpr ⟨af_92, List.forall_mem_cons.mpr ⟨af_93, List.forall_mem_cons.mpr ⟨af_94, List.forall_mem_cons.mpr ⟨af_95, List.forall_mem_cons.mpr ⟨af_96, List.forall_mem_cons.mpr ⟨af_97, List.forall_mem_cons.mpr ⟨af_98, List.forall_mem_cons.mpr ⟨af_99, List.forall_mem_cons.mpr ⟨af_100, List.forall_mem_cons.mpr ⟨af_101, List.forall_mem_cons.mpr ⟨af_102, fun _ h => absurd h List.not_mem_nil⟩⟩⟩⟩⟩⟩⟩⟩⟩⟩⟩⟩⟩⟩⟩⟩⟩⟩⟩⟩⟩⟩⟩⟩⟩⟩⟩⟩⟩⟩⟩⟩⟩⟩⟩⟩⟩⟩⟩⟩⟩⟩⟩⟩⟩⟩⟩⟩⟩⟩⟩⟩⟩⟩⟩⟩⟩⟩⟩⟩⟩⟩⟩⟩⟩⟩⟩⟩⟩⟩⟩⟩⟩⟩⟩⟩⟩⟩⟩⟩⟩⟩⟩⟩⟩⟩⟩⟩⟩⟩⟩⟩⟩⟩⟩⟩⟩⟩⟩⟩⟩⟩⟩
def am_nP (q : (Nat × Nat) × Nat) : Prop := ∃ (C : String) (T : u_T) (N : Nat), vwCl[q.2]? = some (C, T, N) ∧ Cond.classLink (am_on q.1.1) q.1.2 C ∈ am_bw
theorem an_0 : am_nP ((0, 9), 2) := ⟨_, _, _, rfl, aw_1_52⟩
theorem an_1 : am_nP ((3, 9), 2) := ⟨_, _, _, rfl, aw_1_138⟩
theorem an_2 : am_nP ((4, 9), 2) := ⟨_, _, _, rfl, aw_1_186⟩
theorem an_3 : am_nP ((6, 7), 5) := ⟨_, _, _, rfl, aw_1_25⟩
theorem an_4 : am_nP ((6, 16), 0) := ⟨_, _, _, rfl, aw_1_46⟩
theorem an_5 : am_nP ((6, 26), 2) := ⟨_, _, _, rfl, aw_1_130⟩
theorem an_6 : am_nP ((6, 36), 3) := ⟨_, _, _, rfl, aw_1_132⟩
theorem an_7 : am_nP ((6, 54), 1) := ⟨_, _, _, rfl, aw_1_152⟩
theorem an_8 : am_nP ((6, 61), 4) := ⟨_, _, _, rfl, aw_1_180⟩
theorem an_all : ∀ q ∈ am_nT, am_nP q := List.forall_mem_cons.mpr ⟨an_0, List.forall_mem_cons.mpr ⟨an_1, List.forall_mem_cons.mpr ⟨an_2, List.forall_mem_cons.mpr ⟨an_3, List.forall_mem_cons.mpr ⟨an_4, List.forall_mem_cons.mpr ⟨an_5, List.forall_mem_cons.mpr ⟨an_6, List.forall_mem_cons.mpr ⟨an_7, List.forall_mem_cons.mpr ⟨an_8, fun _ h => absurd h List.not_mem_nil⟩⟩⟩⟩⟩⟩⟩⟩⟩
def am_mP (q : am_R) : Prop := match q with | (y, bs, mx, rt, o, np, k, tb) => Cond.code y bs mx rt ∈ am_bw ∧ plainFor y = true ∧ y.cls = am_on o ∧ Cond.initialized y.cls ∈ am_bw ∧ (y.cls ≠ "java/lang/invoke/MethodHandle" ∧ y.cls ≠ "java/lang/invoke/VarHandle" ∧ (parseMethodDescriptor y.desc).map (fun d => d.parameters.length) = some np) ∧ mx ≤ 21 ∧ ((k = 0 ∧ Cond.static y ∈ am_bw ∧ y.name ≠ "<init>") ∨ (k = 1 ∧ Cond.instanceMethod y ∈ am_bw ∧ Cond.selects y.cls y y ∈ am_bw ∧ y.name ≠ "<init>") ∨ (k = 2 ∧ Cond.instanceMethod y ∈ am_bw ∧ y.name = "<init>" ∧ rt = none)) ∧ ∀ e ∈ tb, decode bs e.1 = .ok e.2 ∧ am_lenok e.2.1 e.2.2 = true
theorem ap_0 : am_mP (yX0_init, cX0_init, 1, none, 0, 0, 2, am_t0) := ⟨aw_1_50, plainFor_of_name (by decide +kernel), rfl, aw_1_3, ⟨by decide +kernel, by decide +kernel, by decide +kernel⟩, by decide, Or.inr (Or.inr ⟨rfl, aw_1_49, rfl, rfl⟩), at_0⟩
theorem ap_1 : am_mP (yX0_clear, cX0_clear, 1, none, 0, 0, 1, am_t1) := ⟨aw_2_27, plainFor_of_name (by decide +kernel), rfl, aw_1_3, ⟨by decide +kernel, by decide +kernel, by decide +kernel⟩, by decide, Or.inr (Or.inl ⟨rfl, aw_2_25, aw_2_26, by decide +kernel⟩), at_1⟩
theorem ap_2 : am_mP (yX0_addPerson, cX0_addPerson, 2, (some .boolean), 0, 1, 1, am_t2) := ⟨aw_2_54, plainFor_of_name (by decide +kernel), rfl, aw_1_3, ⟨by decide +kernel, by decide +kernel, by decide +kernel⟩, by decide, Or.inr (Or.inl ⟨rfl, aw_2_52, aw_2_53, by decide +kernel⟩), at_2⟩
theorem ap_3 : am_mP (yX0_tellHouses, cX0_tellHouses, 2, (some .boolean), 0, 1, 1, am_t3) := ⟨aw_2_58, plainFor_of_name (by decide +kernel), rfl, aw_1_3, ⟨by decide +kernel, by decide +kernel, by decide +kernel⟩, by decide, Or.inr (Or.inl ⟨rfl, aw_2_56, aw_2_57, by decide +kernel⟩), at_3⟩
theorem ap_4 : am_mP (yX0_addWork, cX0_addWork, 3, (some .boolean), 0, 2, 1, am_t4) := ⟨aw_2_62, plainFor_of_name (by decide +kernel), rfl, aw_1_3, ⟨by decide +kernel, by decide +kernel, by decide +kernel⟩, by decide, Or.inr (Or.inl ⟨rfl, aw_2_60, aw_2_61, by decide +kernel⟩), at_4⟩
theorem ap_5 : am_mP (yX0_addSubjects, cX0_addSubjects, 2, (some .boolean), 0, 1, 1, am_t5) := ⟨aw_2_66, plainFor_of_name (by decide +kernel), rfl, aw_1_3, ⟨by decide +kernel, by decide +kernel, by decide +kernel⟩, by decide, Or.inr (Or.inl ⟨rfl, aw_2_64, aw_2_65, by decide +kernel⟩), at_5⟩
theorem ap_6 : am_mP (yX0_canBeLaid, cX0_canBeLaid, 2, (some .boolean), 0, 0, 1, am_t6) := ⟨aw_2_70, plainFor_of_name (by decide +kernel), rfl, aw_1_3, ⟨by decide +kernel, by decide +kernel, by decide +kernel⟩, by decide, Or.inr (Or.inl ⟨rfl, aw_2_68, aw_2_69, by decide +kernel⟩), at_6⟩
theorem ap_7 : am_mP (yX0_talkedOf, cX0_talkedOf, 2, (some .int), 0, 1, 1, am_t7) := ⟨aw_2_149, plainFor_of_name (by decide +kernel), rfl, aw_1_3, ⟨by decide +kernel, by decide +kernel, by decide +kernel⟩, by decide, Or.inr (Or.inl ⟨rfl, aw_2_147, aw_2_148, by decide +kernel⟩), at_7⟩
theorem ap_8 : am_mP (yX0_lightOfAll, cX0_lightOfAll, 5, (some .int), 0, 2, 1, am_t8) := ⟨aw_3_18, plainFor_of_name (by decide +kernel), rfl, aw_1_3, ⟨by decide +kernel, by decide +kernel, by decide +kernel⟩, by decide, Or.inr (Or.inl ⟨rfl, aw_3_16, aw_3_17, by decide +kernel⟩), at_8⟩
theorem ap_9 : am_mP (yX0_worksLit, cX0_worksLit, 5, (some .int), 0, 2, 1, am_t9) := ⟨aw_2_172, plainFor_of_name (by decide +kernel), rfl, aw_1_3, ⟨by decide +kernel, by decide +kernel, by decide +kernel⟩, by decide, Or.inr (Or.inl ⟨rfl, aw_2_170, aw_2_171, by decide +kernel⟩), at_9⟩
theorem ap_10 : am_mP (yX0_darkHouses, cX0_darkHouses, 5, (some .int), 0, 2, 1, am_t10) := ⟨aw_3_31, plainFor_of_name (by decide +kernel), rfl, aw_1_3, ⟨by decide +kernel, by decide +kernel, by decide +kernel⟩, by decide, Or.inr (Or.inl ⟨rfl, aw_3_29, aw_3_30, by decide +kernel⟩), at_10⟩
theorem ap_11 : am_mP (yX1_init, cX1_init, 1, none, 1, 0, 2, am_t11) := ⟨aw_1_156, plainFor_of_name (by decide +kernel), rfl, aw_1_6, ⟨by decide +kernel, by decide +kernel, by decide +kernel⟩, by decide, Or.inr (Or.inr ⟨rfl, aw_1_155, rfl, rfl⟩), at_11⟩
theorem ap_12 : am_mP (yX1_search, cX1_search, 6, none, 1, 2, 1, am_t12) := ⟨aw_3_43, plainFor_of_name (by decide +kernel), rfl, aw_1_6, ⟨by decide +kernel, by decide +kernel, by decide +kernel⟩, by decide, Or.inr (Or.inl ⟨rfl, aw_3_41, aw_3_42, by decide +kernel⟩), at_12⟩
theorem ap_13 : am_mP (yX1_settle, cX1_settle, 9, none, 1, 5, 0, am_t13) := ⟨aw_3_49, plainFor_of_name (by decide +kernel), rfl, aw_1_6, ⟨by decide +kernel, by decide +kernel, by decide +kernel⟩, by decide, Or.inl ⟨rfl, aw_3_48, by decide +kernel⟩, at_13⟩
theorem ap_14 : am_mP (yX1_lightAdded, cX1_lightAdded, 5, (some .int), 1, 2, 1, am_t14) := ⟨aw_3_58, plainFor_of_name (by decide +kernel), rfl, aw_1_6, ⟨by decide +kernel, by decide +kernel, by decide +kernel⟩, by decide, Or.inr (Or.inl ⟨rfl, aw_3_57, aw_0_12, by decide +kernel⟩), at_14⟩
theorem ap_15 : am_mP (yX1_weigh, cX1_weigh, 6, none, 1, 2, 1, am_t15) := ⟨aw_3_53, plainFor_of_name (by decide +kernel), rfl, aw_1_6, ⟨by decide +kernel, by decide +kernel, by decide +kernel⟩, by decide, Or.inr (Or.inl ⟨rfl, aw_3_52, aw_0_11, by decide +kernel⟩), at_15⟩
theorem ap_16 : am_mP (yX2_init, cX2_init, 1, none, 2, 0, 2, am_t16) := ⟨aw_1_56, plainFor_of_name (by decide +kernel), rfl, aw_1_4, ⟨by decide +kernel, by decide +kernel, by decide +kernel⟩, by decide, Or.inr (Or.inr ⟨rfl, aw_1_55, rfl, rfl⟩), at_16⟩
theorem ap_17 : am_mP (yX2_clear, cX2_clear, 1, none, 2, 0, 1, am_t17) := ⟨aw_2_31, plainFor_of_name (by decide +kernel), rfl, aw_1_4, ⟨by decide +kernel, by decide +kernel, by decide +kernel⟩, by decide, Or.inr (Or.inl ⟨rfl, aw_2_29, aw_2_30, by decide +kernel⟩), at_17⟩
theorem ap_18 : am_mP (yX2_copy, cX2_copy, 2, none, 2, 1, 1, am_t18) := ⟨aw_2_74, plainFor_of_name (by decide +kernel), rfl, aw_1_4, ⟨by decide +kernel, by decide +kernel, by decide +kernel⟩, by decide, Or.inr (Or.inl ⟨rfl, aw_2_72, aw_2_73, by decide +kernel⟩), at_18⟩
theorem ap_19 : am_mP (yX2_together, cX2_together, 3, (some .boolean), 2, 2, 1, am_t19) := ⟨aw_2_160, plainFor_of_name (by decide +kernel), rfl, aw_1_4, ⟨by decide +kernel, by decide +kernel, by decide +kernel⟩, by decide, Or.inr (Or.inl ⟨rfl, aw_2_158, aw_2_159, by decide +kernel⟩), at_19⟩
theorem ap_20 : am_mP (yX2_quarrelOf, cX2_quarrelOf, 5, (some .int), 2, 3, 1, am_t20) := ⟨aw_2_164, plainFor_of_name (by decide +kernel), rfl, aw_1_4, ⟨by decide +kernel, by decide +kernel, by decide +kernel⟩, by decide, Or.inr (Or.inl ⟨rfl, aw_2_162, aw_2_163, by decide +kernel⟩), at_20⟩
theorem ap_21 : am_mP (yX2_isFalsePair, cX2_isFalsePair, 3, (some .boolean), 2, 2, 1, am_t21) := ⟨aw_2_190, plainFor_of_name (by decide +kernel), rfl, aw_1_4, ⟨by decide +kernel, by decide +kernel, by decide +kernel⟩, by decide, Or.inr (Or.inl ⟨rfl, aw_2_189, aw_0_6, by decide +kernel⟩), at_21⟩
theorem ap_22 : am_mP (yX2_lightOfTwo, cX2_lightOfTwo, 5, (some .int), 2, 3, 1, am_t22) := ⟨aw_2_180, plainFor_of_name (by decide +kernel), rfl, aw_1_4, ⟨by decide +kernel, by decide +kernel, by decide +kernel⟩, by decide, Or.inr (Or.inl ⟨rfl, aw_2_178, aw_2_179, by decide +kernel⟩), at_22⟩
theorem ap_23 : am_mP (yX2_foesOf, cX2_foesOf, 5, (some .int), 2, 2, 1, am_t23) := ⟨aw_2_156, plainFor_of_name (by decide +kernel), rfl, aw_1_4, ⟨by decide +kernel, by decide +kernel, by decide +kernel⟩, by decide, Or.inr (Or.inl ⟨rfl, aw_2_154, aw_2_155, by decide +kernel⟩), at_23⟩
theorem ap_24 : am_mP (yX2_residentsOf, cX2_residentsOf, 4, (some .int), 2, 1, 1, am_t24) := ⟨aw_3_141, plainFor_of_name (by decide +kernel), rfl, aw_1_4, ⟨by decide +kernel, by decide +kernel, by decide +kernel⟩, by decide, Or.inr (Or.inl ⟨rfl, aw_3_139, aw_3_140, by decide +kernel⟩), at_24⟩
theorem ap_25 : am_mP (yX2_lightOf, cX2_lightOf, 6, (some .int), 2, 2, 1, am_t25) := ⟨aw_2_176, plainFor_of_name (by decide +kernel), rfl, aw_1_4, ⟨by decide +kernel, by decide +kernel, by decide +kernel⟩, by decide, Or.inr (Or.inl ⟨rfl, aw_2_174, aw_2_175, by decide +kernel⟩), at_25⟩
theorem ap_26 : am_mP (yX2_hasSmoke, cX2_hasSmoke, 5, (some .boolean), 2, 2, 1, am_t26) := ⟨aw_3_119, plainFor_of_name (by decide +kernel), rfl, aw_1_4, ⟨by decide +kernel, by decide +kernel, by decide +kernel⟩, by decide, Or.inr (Or.inl ⟨rfl, aw_3_117, aw_3_118, by decide +kernel⟩), at_26⟩
theorem ap_27 : am_mP (yX2_drawKinds, cX2_drawKinds, 5, none, 2, 2, 1, am_t27) := ⟨aw_3_145, plainFor_of_name (by decide +kernel), rfl, aw_1_4, ⟨by decide +kernel, by decide +kernel, by decide +kernel⟩, by decide, Or.inr (Or.inl ⟨rfl, aw_3_143, aw_3_144, by decide +kernel⟩), at_27⟩
theorem ap_28 : am_mP (yX2_goBy, cX2_goBy, 3, none, 2, 1, 1, am_t28) := ⟨aw_2_207, plainFor_of_name (by decide +kernel), rfl, aw_1_4, ⟨by decide +kernel, by decide +kernel, by decide +kernel⟩, by decide, Or.inr (Or.inl ⟨rfl, aw_2_205, aw_2_206, by decide +kernel⟩), at_28⟩
theorem ap_29 : am_mP (yX2_changeTempers, cX2_changeTempers, 4, none, 2, 0, 1, am_t29) := ⟨aw_2_212, plainFor_of_name (by decide +kernel), rfl, aw_1_4, ⟨by decide +kernel, by decide +kernel, by decide +kernel⟩, by decide, Or.inr (Or.inl ⟨rfl, aw_2_211, aw_0_7, by decide +kernel⟩), at_29⟩
theorem ap_30 : am_mP (yX2_changeOpinions, cX2_changeOpinions, 4, none, 2, 0, 1, am_t30) := ⟨aw_2_219, plainFor_of_name (by decide +kernel), rfl, aw_1_4, ⟨by decide +kernel, by decide +kernel, by decide +kernel⟩, by decide, Or.inr (Or.inl ⟨rfl, aw_2_218, aw_0_8, by decide +kernel⟩), at_30⟩
theorem ap_31 : am_mP (yX3_init, cX3_init, 2, none, 3, 0, 2, am_t31) := ⟨aw_1_136, plainFor_of_name (by decide +kernel), rfl, aw_1_5, ⟨by decide +kernel, by decide +kernel, by decide +kernel⟩, by decide, Or.inr (Or.inr ⟨rfl, aw_1_135, rfl, rfl⟩), at_31⟩
theorem ap_32 : am_mP (yX3_remember, cX3_remember, 2, none, 3, 1, 1, am_t32) := ⟨aw_2_201, plainFor_of_name (by decide +kernel), rfl, aw_1_5, ⟨by decide +kernel, by decide +kernel, by decide +kernel⟩, by decide, Or.inr (Or.inl ⟨rfl, aw_2_199, aw_2_200, by decide +kernel⟩), at_32⟩
theorem ap_33 : am_mP (yX3_restore, cX3_restore, 2, (some .boolean), 3, 1, 1, am_t33) := ⟨aw_3_6, plainFor_of_name (by decide +kernel), rfl, aw_1_5, ⟨by decide +kernel, by decide +kernel, by decide +kernel⟩, by decide, Or.inr (Or.inl ⟨rfl, aw_3_4, aw_3_5, by decide +kernel⟩), at_33⟩
theorem ap_34 : am_mP (yX4_init, cX4_init, 2, none, 4, 0, 2, am_t34) := ⟨aw_1_184, plainFor_of_name (by decide +kernel), rfl, aw_1_7, ⟨by decide +kernel, by decide +kernel, by decide +kernel⟩, by decide, Or.inr (Or.inr ⟨rfl, aw_1_183, rfl, rfl⟩), at_34⟩
theorem ap_35 : am_mP (yX4_search, cX4_search, 4, none, 4, 3, 1, am_t35) := ⟨aw_3_77, plainFor_of_name (by decide +kernel), rfl, aw_1_7, ⟨by decide +kernel, by decide +kernel, by decide +kernel⟩, by decide, Or.inr (Or.inl ⟨rfl, aw_3_75, aw_3_76, by decide +kernel⟩), at_35⟩
theorem ap_36 : am_mP (yX4_discuss, cX4_discuss, 9, none, 4, 5, 0, am_t36) := ⟨aw_3_81, plainFor_of_name (by decide +kernel), rfl, aw_1_7, ⟨by decide +kernel, by decide +kernel, by decide +kernel⟩, by decide, Or.inl ⟨rfl, aw_3_80, by decide +kernel⟩, at_36⟩
theorem ap_37 : am_mP (yX4_weigh, cX4_weigh, 2, none, 4, 1, 1, am_t37) := ⟨aw_3_85, plainFor_of_name (by decide +kernel), rfl, aw_1_7, ⟨by decide +kernel, by decide +kernel, by decide +kernel⟩, by decide, Or.inr (Or.inl ⟨rfl, aw_3_84, aw_0_14, by decide +kernel⟩), at_37⟩
theorem ap_38 : am_mP (yX5_init, cX5_init, 1, none, 5, 0, 2, am_t38) := ⟨aw_1_29, plainFor_of_name (by decide +kernel), rfl, aw_1_2, ⟨by decide +kernel, by decide +kernel, by decide +kernel⟩, by decide, Or.inr (Or.inr ⟨rfl, aw_1_28, rfl, rfl⟩), at_38⟩
theorem ap_39 : am_mP (yX5_append, cX5_append, 2, (some .boolean), 5, 1, 1, am_t39) := ⟨aw_2_15, plainFor_of_name (by decide +kernel), rfl, aw_1_2, ⟨by decide +kernel, by decide +kernel, by decide +kernel⟩, by decide, Or.inr (Or.inl ⟨rfl, aw_2_13, aw_2_14, by decide +kernel⟩), at_39⟩
theorem ap_40 : am_mP (yX5_readInto, cX5_readInto, 4, (some .int), 5, 1, 1, am_t40) := ⟨aw_2_23, plainFor_of_name (by decide +kernel), rfl, aw_1_2, ⟨by decide +kernel, by decide +kernel, by decide +kernel⟩, by decide, Or.inr (Or.inl ⟨rfl, aw_2_21, aw_2_22, by decide +kernel⟩), at_40⟩
theorem ap_41 : am_mP (yX5_readItem, cX5_readItem, 3, (some .boolean), 5, 1, 1, am_t41) := ⟨aw_2_38, plainFor_of_name (by decide +kernel), rfl, aw_1_2, ⟨by decide +kernel, by decide +kernel, by decide +kernel⟩, by decide, Or.inr (Or.inl ⟨rfl, aw_2_37, aw_0_1, by decide +kernel⟩), at_41⟩
theorem ap_42 : am_mP (yX5_readNumbers, cX5_readNumbers, 5, (some .boolean), 5, 1, 1, am_t42) := ⟨aw_2_46, plainFor_of_name (by decide +kernel), rfl, aw_1_2, ⟨by decide +kernel, by decide +kernel, by decide +kernel⟩, by decide, Or.inr (Or.inl ⟨rfl, aw_2_45, aw_0_3, by decide +kernel⟩), at_42⟩
theorem ap_43 : am_mP (yX5_readNumber, cX5_readNumber, 4, (some .int), 5, 0, 1, am_t43) := ⟨aw_2_50, plainFor_of_name (by decide +kernel), rfl, aw_1_2, ⟨by decide +kernel, by decide +kernel, by decide +kernel⟩, by decide, Or.inr (Or.inl ⟨rfl, aw_2_49, aw_0_4, by decide +kernel⟩), at_43⟩
theorem ap_44 : am_mP (yX5_letterHere, cX5_letterHere, 1, (some .int), 5, 0, 1, am_t44) := ⟨aw_2_42, plainFor_of_name (by decide +kernel), rfl, aw_1_2, ⟨by decide +kernel, by decide +kernel, by decide +kernel⟩, by decide, Or.inr (Or.inl ⟨rfl, aw_2_41, aw_0_2, by decide +kernel⟩), at_44⟩
theorem ap_45 : am_mP (yX6_init, cX6_init, 2, none, 6, 0, 2, am_t45) := ⟨aw_1_21, plainFor_of_name (by decide +kernel), rfl, aw_1_1, ⟨by decide +kernel, by decide +kernel, by decide +kernel⟩, by decide, Or.inr (Or.inr ⟨rfl, aw_1_20, rfl, rfl⟩), at_45⟩
theorem ap_46 : am_mP (yX6_write, cX6_write, 2, (some .int), 6, 1, 1, am_t46) := ⟨aw_2_125, plainFor_of_name (by decide +kernel), rfl, aw_1_1, ⟨by decide +kernel, by decide +kernel, by decide +kernel⟩, by decide, Or.inr (Or.inl ⟨rfl, aw_2_123, aw_2_124, by decide +kernel⟩), at_46⟩
theorem ap_47 : am_mP (yX6_wipe, cX6_wipe, 2, (some .int), 6, 0, 1, am_t47) := ⟨aw_2_129, plainFor_of_name (by decide +kernel), rfl, aw_1_1, ⟨by decide +kernel, by decide +kernel, by decide +kernel⟩, by decide, Or.inr (Or.inl ⟨rfl, aw_2_127, aw_2_128, by decide +kernel⟩), at_47⟩
theorem ap_48 : am_mP (yX6_fault, cX6_fault, 1, (some .int), 6, 0, 1, am_t48) := ⟨aw_2_133, plainFor_of_name (by decide +kernel), rfl, aw_1_1, ⟨by decide +kernel, by decide +kernel, by decide +kernel⟩, by decide, Or.inr (Or.inl ⟨rfl, aw_2_131, aw_2_132, by decide +kernel⟩), at_48⟩
theorem ap_49 : am_mP (yX6_lay, cX6_lay, 1, (some .int), 6, 0, 1, am_t49) := ⟨aw_2_137, plainFor_of_name (by decide +kernel), rfl, aw_1_1, ⟨by decide +kernel, by decide +kernel, by decide +kernel⟩, by decide, Or.inr (Or.inl ⟨rfl, aw_2_135, aw_2_136, by decide +kernel⟩), at_49⟩
theorem ap_50 : am_mP (yX6_person, cX6_person, 3, (some .int), 6, 2, 1, am_t50) := ⟨aw_2_141, plainFor_of_name (by decide +kernel), rfl, aw_1_1, ⟨by decide +kernel, by decide +kernel, by decide +kernel⟩, by decide, Or.inr (Or.inl ⟨rfl, aw_2_139, aw_2_140, by decide +kernel⟩), at_50⟩
theorem ap_51 : am_mP (yX6_work, cX6_work, 3, (some .int), 6, 2, 1, am_t51) := ⟨aw_2_168, plainFor_of_name (by decide +kernel), rfl, aw_1_1, ⟨by decide +kernel, by decide +kernel, by decide +kernel⟩, by decide, Or.inr (Or.inl ⟨rfl, aw_2_166, aw_2_167, by decide +kernel⟩), at_51⟩
theorem ap_52 : am_mP (yX6_pass, cX6_pass, 3, (some .int), 6, 1, 1, am_t52) := ⟨aw_2_197, plainFor_of_name (by decide +kernel), rfl, aw_1_1, ⟨by decide +kernel, by decide +kernel, by decide +kernel⟩, by decide, Or.inr (Or.inl ⟨rfl, aw_2_195, aw_2_196, by decide +kernel⟩), at_52⟩
theorem ap_53 : am_mP (yX6_move, cX6_move, 4, (some .int), 6, 2, 1, am_t53) := ⟨aw_2_223, plainFor_of_name (by decide +kernel), rfl, aw_1_1, ⟨by decide +kernel, by decide +kernel, by decide +kernel⟩, by decide, Or.inr (Or.inl ⟨rfl, aw_2_221, aw_2_222, by decide +kernel⟩), at_53⟩
theorem ap_54 : am_mP (yX6_alter, cX6_alter, 3, (some .int), 6, 2, 1, am_t54) := ⟨aw_2_231, plainFor_of_name (by decide +kernel), rfl, aw_1_1, ⟨by decide +kernel, by decide +kernel, by decide +kernel⟩, by decide, Or.inr (Or.inl ⟨rfl, aw_2_229, aw_2_230, by decide +kernel⟩), at_54⟩
theorem ap_55 : am_mP (yX6_ration, cX6_ration, 2, (some .int), 6, 1, 1, am_t55) := ⟨aw_2_238, plainFor_of_name (by decide +kernel), rfl, aw_1_1, ⟨by decide +kernel, by decide +kernel, by decide +kernel⟩, by decide, Or.inr (Or.inl ⟨rfl, aw_2_236, aw_2_237, by decide +kernel⟩), at_55⟩
theorem ap_56 : am_mP (yX6_undo, cX6_undo, 1, (some .int), 6, 0, 1, am_t56) := ⟨aw_3_2, plainFor_of_name (by decide +kernel), rfl, aw_1_1, ⟨by decide +kernel, by decide +kernel, by decide +kernel⟩, by decide, Or.inr (Or.inl ⟨rfl, aw_3_0, aw_3_1, by decide +kernel⟩), at_56⟩
theorem ap_57 : am_mP (yX6_light, cX6_light, 4, (some .int), 6, 2, 1, am_t57) := ⟨aw_3_10, plainFor_of_name (by decide +kernel), rfl, aw_1_1, ⟨by decide +kernel, by decide +kernel, by decide +kernel⟩, by decide, Or.inr (Or.inl ⟨rfl, aw_3_8, aw_3_9, by decide +kernel⟩), at_57⟩
theorem ap_58 : am_mP (yX6_lit, cX6_lit, 2, (some .int), 6, 1, 1, am_t58) := ⟨aw_3_23, plainFor_of_name (by decide +kernel), rfl, aw_1_1, ⟨by decide +kernel, by decide +kernel, by decide +kernel⟩, by decide, Or.inr (Or.inl ⟨rfl, aw_3_21, aw_3_22, by decide +kernel⟩), at_58⟩
theorem ap_59 : am_mP (yX6_reach, cX6_reach, 5, (some .int), 6, 1, 1, am_t59) := ⟨aw_3_27, plainFor_of_name (by decide +kernel), rfl, aw_1_1, ⟨by decide +kernel, by decide +kernel, by decide +kernel⟩, by decide, Or.inr (Or.inl ⟨rfl, aw_3_25, aw_3_26, by decide +kernel⟩), at_59⟩
theorem ap_60 : am_mP (yX6_first, cX6_first, 4, (some .int), 6, 0, 1, am_t60) := ⟨aw_3_35, plainFor_of_name (by decide +kernel), rfl, aw_1_1, ⟨by decide +kernel, by decide +kernel, by decide +kernel⟩, by decide, Or.inr (Or.inl ⟨rfl, aw_3_33, aw_3_34, by decide +kernel⟩), at_60⟩
theorem ap_61 : am_mP (yX6_homes, cX6_homes, 2, (some .int), 6, 1, 1, am_t61) := ⟨aw_3_39, plainFor_of_name (by decide +kernel), rfl, aw_1_1, ⟨by decide +kernel, by decide +kernel, by decide +kernel⟩, by decide, Or.inr (Or.inl ⟨rfl, aw_3_37, aw_3_38, by decide +kernel⟩), at_61⟩
theorem ap_62 : am_mP (yX6_apart, cX6_apart, 11, (some .int), 6, 3, 1, am_t62) := ⟨aw_3_62, plainFor_of_name (by decide +kernel), rfl, aw_1_1, ⟨by decide +kernel, by decide +kernel, by decide +kernel⟩, by decide, Or.inr (Or.inl ⟨rfl, aw_3_60, aw_3_61, by decide +kernel⟩), at_62⟩
theorem ap_63 : am_mP (yX6_talk, cX6_talk, 3, (some .int), 6, 2, 1, am_t63) := ⟨aw_3_73, plainFor_of_name (by decide +kernel), rfl, aw_1_1, ⟨by decide +kernel, by decide +kernel, by decide +kernel⟩, by decide, Or.inr (Or.inl ⟨rfl, aw_3_71, aw_3_72, by decide +kernel⟩), at_63⟩
theorem ap_64 : am_mP (yX6_settles, cX6_settles, 2, (some .int), 6, 0, 1, am_t64) := ⟨aw_3_92, plainFor_of_name (by decide +kernel), rfl, aw_1_1, ⟨by decide +kernel, by decide +kernel, by decide +kernel⟩, by decide, Or.inr (Or.inl ⟨rfl, aw_3_90, aw_3_91, by decide +kernel⟩), at_64⟩
theorem ap_65 : am_mP (yX6_seen, cX6_seen, 3, (some .int), 6, 2, 1, am_t65) := ⟨aw_3_99, plainFor_of_name (by decide +kernel), rfl, aw_1_1, ⟨by decide +kernel, by decide +kernel, by decide +kernel⟩, by decide, Or.inr (Or.inl ⟨rfl, aw_3_97, aw_3_98, by decide +kernel⟩), at_65⟩
theorem ap_66 : am_mP (yX6_forget, cX6_forget, 2, (some .int), 6, 0, 1, am_t66) := ⟨aw_3_103, plainFor_of_name (by decide +kernel), rfl, aw_1_1, ⟨by decide +kernel, by decide +kernel, by decide +kernel⟩, by decide, Or.inr (Or.inl ⟨rfl, aw_3_101, aw_3_102, by decide +kernel⟩), at_66⟩
theorem ap_67 : am_mP (yX6_may, cX6_may, 6, (some .int), 6, 2, 1, am_t67) := ⟨aw_3_107, plainFor_of_name (by decide +kernel), rfl, aw_1_1, ⟨by decide +kernel, by decide +kernel, by decide +kernel⟩, by decide, Or.inr (Or.inl ⟨rfl, aw_3_105, aw_3_106, by decide +kernel⟩), at_67⟩
theorem ap_68 : am_mP (yX6_smokes, cX6_smokes, 4, (some .int), 6, 0, 1, am_t68) := ⟨aw_3_115, plainFor_of_name (by decide +kernel), rfl, aw_1_1, ⟨by decide +kernel, by decide +kernel, by decide +kernel⟩, by decide, Or.inr (Or.inl ⟨rfl, aw_3_113, aw_3_114, by decide +kernel⟩), at_68⟩
theorem ap_69 : am_mP (yX6_married, cX6_married, 3, (some .int), 6, 1, 1, am_t69) := ⟨aw_3_123, plainFor_of_name (by decide +kernel), rfl, aw_1_1, ⟨by decide +kernel, by decide +kernel, by decide +kernel⟩, by decide, Or.inr (Or.inl ⟨rfl, aw_3_121, aw_3_122, by decide +kernel⟩), at_69⟩
theorem ap_70 : am_mP (yX6_falseBy, cX6_falseBy, 6, (some .int), 6, 3, 1, am_t70) := ⟨aw_3_133, plainFor_of_name (by decide +kernel), rfl, aw_1_1, ⟨by decide +kernel, by decide +kernel, by decide +kernel⟩, by decide, Or.inr (Or.inl ⟨rfl, aw_3_131, aw_3_132, by decide +kernel⟩), at_70⟩
theorem ap_71 : am_mP (yX6_winter, cX6_winter, 8, (some .int), 6, 3, 1, am_t71) := ⟨aw_3_155, plainFor_of_name (by decide +kernel), rfl, aw_1_1, ⟨by decide +kernel, by decide +kernel, by decide +kernel⟩, by decide, Or.inr (Or.inl ⟨rfl, aw_3_153, aw_3_154, by decide +kernel⟩), at_71⟩
theorem ap_72 : am_mP (yX6_keep, cX6_keep, 1, (some .int), 6, 0, 1, am_t72) := ⟨aw_3_170, plainFor_of_name (by decide +kernel), rfl, aw_1_1, ⟨by decide +kernel, by decide +kernel, by decide +kernel⟩, by decide, Or.inr (Or.inl ⟨rfl, aw_3_168, aw_3_169, by decide +kernel⟩), at_72⟩
theorem ap_73 : am_mP (yX6_back, cX6_back, 1, (some .int), 6, 0, 1, am_t73) := ⟨aw_3_174, plainFor_of_name (by decide +kernel), rfl, aw_1_1, ⟨by decide +kernel, by decide +kernel, by decide +kernel⟩, by decide, Or.inr (Or.inl ⟨rfl, aw_3_172, aw_3_173, by decide +kernel⟩), at_73⟩
theorem ap_74 : am_mP (yX6_count, cX6_count, 2, (some .int), 6, 1, 1, am_t74) := ⟨aw_3_178, plainFor_of_name (by decide +kernel), rfl, aw_1_1, ⟨by decide +kernel, by decide +kernel, by decide +kernel⟩, by decide, Or.inr (Or.inl ⟨rfl, aw_3_176, aw_3_177, by decide +kernel⟩), at_74⟩
theorem ap_75 : am_mP (yX6_isPerson, cX6_isPerson, 2, (some .boolean), 6, 1, 1, am_t75) := ⟨aw_2_145, plainFor_of_name (by decide +kernel), rfl, aw_1_1, ⟨by decide +kernel, by decide +kernel, by decide +kernel⟩, by decide, Or.inr (Or.inl ⟨rfl, aw_2_144, aw_0_5, by decide +kernel⟩), at_75⟩
theorem ap_76 : am_mP (yX6_isHouse, cX6_isHouse, 2, (some .boolean), 6, 1, 1, am_t76) := ⟨aw_2_227, plainFor_of_name (by decide +kernel), rfl, aw_1_1, ⟨by decide +kernel, by decide +kernel, by decide +kernel⟩, by decide, Or.inr (Or.inl ⟨rfl, aw_2_226, aw_0_9, by decide +kernel⟩), at_76⟩
theorem ap_77 : am_mP (yX6_isSubject, cX6_isSubject, 1, (some .boolean), 6, 1, 0, am_t77) := ⟨aw_2_234, plainFor_of_name (by decide +kernel), rfl, aw_1_1, ⟨by decide +kernel, by decide +kernel, by decide +kernel⟩, by decide, Or.inl ⟨rfl, aw_2_233, by decide +kernel⟩, at_77⟩
theorem ap_78 : am_mP (yX6_layText, cX6_layText, 2, (some .boolean), 6, 0, 1, am_t78) := ⟨aw_2_19, plainFor_of_name (by decide +kernel), rfl, aw_1_1, ⟨by decide +kernel, by decide +kernel, by decide +kernel⟩, by decide, Or.inr (Or.inl ⟨rfl, aw_2_18, aw_0_0, by decide +kernel⟩), at_78⟩
theorem ap_79 : am_mP (yX6_lookAhead, cX6_lookAhead, 3, none, 6, 1, 1, am_t79) := ⟨aw_3_14, plainFor_of_name (by decide +kernel), rfl, aw_1_1, ⟨by decide +kernel, by decide +kernel, by decide +kernel⟩, by decide, Or.inr (Or.inl ⟨rfl, aw_3_13, aw_0_10, by decide +kernel⟩), at_79⟩
theorem ap_80 : am_mP (yX6_lightIfMoved, cX6_lightIfMoved, 3, (some .int), 6, 2, 1, am_t80) := ⟨aw_3_69, plainFor_of_name (by decide +kernel), rfl, aw_1_1, ⟨by decide +kernel, by decide +kernel, by decide +kernel⟩, by decide, Or.inr (Or.inl ⟨rfl, aw_3_68, aw_0_13, by decide +kernel⟩), at_80⟩
theorem ap_81 : am_mP (yX6_nobodyAtOdds, cX6_nobodyAtOdds, 3, (some .boolean), 6, 2, 0, am_t81) := ⟨aw_3_95, plainFor_of_name (by decide +kernel), rfl, aw_1_1, ⟨by decide +kernel, by decide +kernel, by decide +kernel⟩, by decide, Or.inl ⟨rfl, aw_3_94, by decide +kernel⟩, at_81⟩
theorem ap_82 : am_mP (yX6_agreesWithSeen, cX6_agreesWithSeen, 4, (some .boolean), 6, 1, 1, am_t82) := ⟨aw_3_111, plainFor_of_name (by decide +kernel), rfl, aw_1_1, ⟨by decide +kernel, by decide +kernel, by decide +kernel⟩, by decide, Or.inr (Or.inl ⟨rfl, aw_3_110, aw_0_15, by decide +kernel⟩), at_82⟩
theorem ap_83 : am_mP (yX6_marryMostUnlike, cX6_marryMostUnlike, 7, none, 6, 0, 1, am_t83) := ⟨aw_3_128, plainFor_of_name (by decide +kernel), rfl, aw_1_1, ⟨by decide +kernel, by decide +kernel, by decide +kernel⟩, by decide, Or.inr (Or.inl ⟨rfl, aw_3_127, aw_0_16, by decide +kernel⟩), at_83⟩
theorem ap_84 : am_mP (yX6_smokingChances, cX6_smokingChances, 9, (some .int), 6, 2, 1, am_t84) := ⟨aw_3_137, plainFor_of_name (by decide +kernel), rfl, aw_1_1, ⟨by decide +kernel, by decide +kernel, by decide +kernel⟩, by decide, Or.inr (Or.inl ⟨rfl, aw_3_136, aw_0_17, by decide +kernel⟩), at_84⟩
theorem ap_85 : am_mP (yX6_power, cX6_power, 4, (some .int), 6, 2, 0, am_t85) := ⟨aw_3_148, plainFor_of_name (by decide +kernel), rfl, aw_1_1, ⟨by decide +kernel, by decide +kernel, by decide +kernel⟩, by decide, Or.inl ⟨rfl, aw_3_147, by decide +kernel⟩, at_85⟩
theorem ap_86 : am_mP (yX6_inLowestTerms, cX6_inLowestTerms, 6, (some .int), 6, 3, 0, am_t86) := ⟨aw_3_151, plainFor_of_name (by decide +kernel), rfl, aw_1_1, ⟨by decide +kernel, by decide +kernel, by decide +kernel⟩, by decide, Or.inl ⟨rfl, aw_3_150, by decide +kernel⟩, at_86⟩
theorem ap_87 : am_mP (yX6_drawOf, cX6_drawOf, 4, (some .int), 6, 2, 0, am_t87) := ⟨aw_3_158, plainFor_of_name (by decide +kernel), rfl, aw_1_1, ⟨by decide +kernel, by decide +kernel, by decide +kernel⟩, by decide, Or.inl ⟨rfl, aw_3_157, by decide +kernel⟩, at_87⟩
theorem ap_88 : am_mP (yX6_alterByDraw, cX6_alterByDraw, 4, none, 6, 2, 1, am_t88) := ⟨aw_3_166, plainFor_of_name (by decide +kernel), rfl, aw_1_1, ⟨by decide +kernel, by decide +kernel, by decide +kernel⟩, by decide, Or.inr (Or.inl ⟨rfl, aw_3_165, aw_0_18, by decide +kernel⟩), at_88⟩
theorem ap_89 : am_mP (yX7_in, cX7_in, 6, (some .boolean), 7, 3, 0, am_t89) := ⟨aw_4_31, plainFor_of_name (by decide +kernel), rfl, aw_1_14, ⟨by decide +kernel, by decide +kernel, by decide +kernel⟩, by decide, Or.inl ⟨rfl, aw_4_30, by decide +kernel⟩, at_89⟩
theorem ap_90 : am_mP (yX7_init, cX7_init, 1, none, 7, 0, 2, am_t90) := ⟨aw_3_183, plainFor_of_name (by decide +kernel), rfl, aw_1_14, ⟨by decide +kernel, by decide +kernel, by decide +kernel⟩, by decide, Or.inr (Or.inr ⟨rfl, aw_3_182, rfl, rfl⟩), at_90⟩
theorem ap_91 : am_mP (yX7_lives, cX7_lives, 6, none, 7, 4, 1, am_t91) := ⟨aw_3_188, plainFor_of_name (by decide +kernel), rfl, aw_1_14, ⟨by decide +kernel, by decide +kernel, by decide +kernel⟩, by decide, Or.inr (Or.inl ⟨rfl, aw_3_187, aw_0_19, by decide +kernel⟩), at_91⟩
theorem ap_92 : am_mP (yX7_works, cX7_works, 4, none, 7, 3, 1, am_t92) := ⟨aw_3_192, plainFor_of_name (by decide +kernel), rfl, aw_1_14, ⟨by decide +kernel, by decide +kernel, by decide +kernel⟩, by decide, Or.inr (Or.inl ⟨rfl, aw_3_191, aw_0_20, by decide +kernel⟩), at_92⟩
theorem ap_93 : am_mP (yX7_isPerson, cX7_isPerson, 2, (some .boolean), 7, 1, 1, am_t93) := ⟨aw_4_78, plainFor_of_name (by decide +kernel), rfl, aw_1_14, ⟨by decide +kernel, by decide +kernel, by decide +kernel⟩, by decide, Or.inr (Or.inl ⟨rfl, aw_4_77, aw_0_27, by decide +kernel⟩), at_93⟩
theorem ap_94 : am_mP (yX7_isHouse, cX7_isHouse, 2, (some .boolean), 7, 1, 1, am_t94) := ⟨aw_4_152, plainFor_of_name (by decide +kernel), rfl, aw_1_14, ⟨by decide +kernel, by decide +kernel, by decide +kernel⟩, by decide, Or.inr (Or.inl ⟨rfl, aw_4_151, aw_0_41, by decide +kernel⟩), at_94⟩
theorem ap_95 : am_mP (yX7_isSubject, cX7_isSubject, 1, (some .boolean), 7, 1, 0, am_t95) := ⟨aw_4_159, plainFor_of_name (by decide +kernel), rfl, aw_1_14, ⟨by decide +kernel, by decide +kernel, by decide +kernel⟩, by decide, Or.inl ⟨rfl, aw_4_158, by decide +kernel⟩, at_95⟩
theorem ap_96 : am_mP (yX7_opinions, cX7_opinions, 2, (some .int), 7, 1, 1, am_t96) := ⟨aw_4_107, plainFor_of_name (by decide +kernel), rfl, aw_1_14, ⟨by decide +kernel, by decide +kernel, by decide +kernel⟩, by decide, Or.inr (Or.inl ⟨rfl, aw_4_106, aw_0_34, by decide +kernel⟩), at_96⟩
theorem ap_97 : am_mP (yX7_temper, cX7_temper, 2, (some .int), 7, 1, 1, am_t97) := ⟨aw_4_103, plainFor_of_name (by decide +kernel), rfl, aw_1_14, ⟨by decide +kernel, by decide +kernel, by decide +kernel⟩, by decide, Or.inr (Or.inl ⟨rfl, aw_4_102, aw_0_33, by decide +kernel⟩), at_97⟩
theorem ap_98 : am_mP (yX7_house, cX7_house, 2, (some .int), 7, 1, 1, am_t98) := ⟨aw_4_95, plainFor_of_name (by decide +kernel), rfl, aw_1_14, ⟨by decide +kernel, by decide +kernel, by decide +kernel⟩, by decide, Or.inr (Or.inl ⟨rfl, aw_4_94, aw_0_31, by decide +kernel⟩), at_98⟩
theorem ap_99 : am_mP (yX7_write, cX7_write, 2, (some .int), 7, 1, 1, am_t99) := ⟨aw_4_26, plainFor_of_name (by decide +kernel), rfl, aw_1_14, ⟨by decide +kernel, by decide +kernel, by decide +kernel⟩, by decide, Or.inr (Or.inl ⟨rfl, aw_4_24, aw_4_25, by decide +kernel⟩), at_99⟩
theorem ap_100 : am_mP (yX7_wipe, cX7_wipe, 2, (some .int), 7, 0, 1, am_t100) := ⟨aw_4_35, plainFor_of_name (by decide +kernel), rfl, aw_1_14, ⟨by decide +kernel, by decide +kernel, by decide +kernel⟩, by decide, Or.inr (Or.inl ⟨rfl, aw_4_33, aw_4_34, by decide +kernel⟩), at_100⟩
theorem ap_101 : am_mP (yX7_isFigure, cX7_isFigure, 1, (some .boolean), 7, 0, 1, am_t101) := ⟨aw_4_51, plainFor_of_name (by decide +kernel), rfl, aw_1_14, ⟨by decide +kernel, by decide +kernel, by decide +kernel⟩, by decide, Or.inr (Or.inl ⟨rfl, aw_4_50, aw_0_23, by decide +kernel⟩), at_101⟩
theorem ap_102 : am_mP (yX7_number, cX7_number, 5, (some .boolean), 7, 3, 1, am_t102) := ⟨aw_4_47, plainFor_of_name (by decide +kernel), rfl, aw_1_14, ⟨by decide +kernel, by decide +kernel, by decide +kernel⟩, by decide, Or.inr (Or.inl ⟨rfl, aw_4_46, aw_0_22, by decide +kernel⟩), at_102⟩
theorem ap_103 : am_mP (yX7_readPerson, cX7_readPerson, 4, (some .boolean), 7, 0, 1, am_t103) := ⟨aw_4_57, plainFor_of_name (by decide +kernel), rfl, aw_1_14, ⟨by decide +kernel, by decide +kernel, by decide +kernel⟩, by decide, Or.inr (Or.inl ⟨rfl, aw_4_56, aw_0_24, by decide +kernel⟩), at_103⟩
theorem ap_104 : am_mP (yX7_readWork, cX7_readWork, 2, (some .boolean), 7, 0, 1, am_t104) := ⟨aw_4_61, plainFor_of_name (by decide +kernel), rfl, aw_1_14, ⟨by decide +kernel, by decide +kernel, by decide +kernel⟩, by decide, Or.inr (Or.inl ⟨rfl, aw_4_60, aw_0_25, by decide +kernel⟩), at_104⟩
theorem ap_105 : am_mP (yX7_readTalk, cX7_readTalk, 1, (some .boolean), 7, 0, 1, am_t105) := ⟨aw_4_65, plainFor_of_name (by decide +kernel), rfl, aw_1_14, ⟨by decide +kernel, by decide +kernel, by decide +kernel⟩, by decide, Or.inr (Or.inl ⟨rfl, aw_4_64, aw_0_26, by decide +kernel⟩), at_105⟩
theorem ap_106 : am_mP (yX7_item, cX7_item, 3, (some .boolean), 7, 0, 1, am_t106) := ⟨aw_4_43, plainFor_of_name (by decide +kernel), rfl, aw_1_14, ⟨by decide +kernel, by decide +kernel, by decide +kernel⟩, by decide, Or.inr (Or.inl ⟨rfl, aw_4_42, aw_0_21, by decide +kernel⟩), at_106⟩
theorem ap_107 : am_mP (yX7_fault, cX7_fault, 2, (some .int), 7, 0, 1, am_t107) := ⟨aw_4_39, plainFor_of_name (by decide +kernel), rfl, aw_1_14, ⟨by decide +kernel, by decide +kernel, by decide +kernel⟩, by decide, Or.inr (Or.inl ⟨rfl, aw_4_37, aw_4_38, by decide +kernel⟩), at_107⟩
theorem ap_108 : am_mP (yX7_lay, cX7_lay, 2, (some .int), 7, 0, 1, am_t108) := ⟨aw_4_69, plainFor_of_name (by decide +kernel), rfl, aw_1_14, ⟨by decide +kernel, by decide +kernel, by decide +kernel⟩, by decide, Or.inr (Or.inl ⟨rfl, aw_4_67, aw_4_68, by decide +kernel⟩), at_108⟩
theorem ap_109 : am_mP (yX7_many, cX7_many, 3, (some .int), 7, 1, 0, am_t109) := ⟨aw_4_110, plainFor_of_name (by decide +kernel), rfl, aw_1_14, ⟨by decide +kernel, by decide +kernel, by decide +kernel⟩, by decide, Or.inl ⟨rfl, aw_4_109, by decide +kernel⟩, at_109⟩
theorem ap_110 : am_mP (yX7_speaks, cX7_speaks, 2, (some .boolean), 7, 1, 1, am_t110) := ⟨aw_4_99, plainFor_of_name (by decide +kernel), rfl, aw_1_14, ⟨by decide +kernel, by decide +kernel, by decide +kernel⟩, by decide, Or.inr (Or.inl ⟨rfl, aw_4_98, aw_0_32, by decide +kernel⟩), at_110⟩
theorem ap_111 : am_mP (yX7_odds, cX7_odds, 4, (some .int), 7, 3, 1, am_t111) := ⟨aw_4_91, plainFor_of_name (by decide +kernel), rfl, aw_1_14, ⟨by decide +kernel, by decide +kernel, by decide +kernel⟩, by decide, Or.inr (Or.inl ⟨rfl, aw_4_90, aw_0_30, by decide +kernel⟩), at_111⟩
theorem ap_112 : am_mP (yX7_talkedOf, cX7_talkedOf, 1, (some .int), 7, 0, 1, am_t112) := ⟨aw_4_83, plainFor_of_name (by decide +kernel), rfl, aw_1_14, ⟨by decide +kernel, by decide +kernel, by decide +kernel⟩, by decide, Or.inr (Or.inl ⟨rfl, aw_4_82, aw_0_28, by decide +kernel⟩), at_112⟩
theorem ap_113 : am_mP (yX7_burns, cX7_burns, 7, none, 7, 1, 1, am_t113) := ⟨aw_4_119, plainFor_of_name (by decide +kernel), rfl, aw_1_14, ⟨by decide +kernel, by decide +kernel, by decide +kernel⟩, by decide, Or.inr (Or.inl ⟨rfl, aw_4_118, aw_0_35, by decide +kernel⟩), at_113⟩
theorem ap_114 : am_mP (yX7_allLight, cX7_allLight, 3, (some .int), 7, 0, 1, am_t114) := ⟨aw_4_188, plainFor_of_name (by decide +kernel), rfl, aw_1_14, ⟨by decide +kernel, by decide +kernel, by decide +kernel⟩, by decide, Or.inr (Or.inl ⟨rfl, aw_4_187, aw_0_45, by decide +kernel⟩), at_114⟩
theorem ap_115 : am_mP (yX7_allLit, cX7_allLit, 3, (some .int), 7, 0, 1, am_t115) := ⟨aw_4_123, plainFor_of_name (by decide +kernel), rfl, aw_1_14, ⟨by decide +kernel, by decide +kernel, by decide +kernel⟩, by decide, Or.inr (Or.inl ⟨rfl, aw_4_122, aw_0_36, by decide +kernel⟩), at_115⟩
theorem ap_116 : am_mP (yX7_angers, cX7_angers, 4, none, 7, 2, 1, am_t116) := ⟨aw_4_144, plainFor_of_name (by decide +kernel), rfl, aw_1_14, ⟨by decide +kernel, by decide +kernel, by decide +kernel⟩, by decide, Or.inr (Or.inl ⟨rfl, aw_4_143, aw_0_40, by decide +kernel⟩), at_116⟩
theorem ap_117 : am_mP (yX7_meets, cX7_meets, 4, none, 7, 1, 1, am_t117) := ⟨aw_4_87, plainFor_of_name (by decide +kernel), rfl, aw_1_14, ⟨by decide +kernel, by decide +kernel, by decide +kernel⟩, by decide, Or.inr (Or.inl ⟨rfl, aw_4_86, aw_0_29, by decide +kernel⟩), at_117⟩
theorem ap_118 : am_mP (yX7_goesBy, cX7_goesBy, 5, none, 7, 1, 1, am_t118) := ⟨aw_4_140, plainFor_of_name (by decide +kernel), rfl, aw_1_14, ⟨by decide +kernel, by decide +kernel, by decide +kernel⟩, by decide, Or.inr (Or.inl ⟨rfl, aw_4_139, aw_0_39, by decide +kernel⟩), at_118⟩
theorem ap_119 : am_mP (yX7_goesOn, cX7_goesOn, 3, none, 7, 1, 1, am_t119) := ⟨aw_4_136, plainFor_of_name (by decide +kernel), rfl, aw_1_14, ⟨by decide +kernel, by decide +kernel, by decide +kernel⟩, by decide, Or.inr (Or.inl ⟨rfl, aw_4_135, aw_0_38, by decide +kernel⟩), at_119⟩
theorem ap_120 : am_mP (yX7_person, cX7_person, 3, (some .int), 7, 2, 1, am_t120) := ⟨aw_4_74, plainFor_of_name (by decide +kernel), rfl, aw_1_14, ⟨by decide +kernel, by decide +kernel, by decide +kernel⟩, by decide, Or.inr (Or.inl ⟨rfl, aw_4_72, aw_4_73, by decide +kernel⟩), at_120⟩
theorem ap_121 : am_mP (yX7_work, cX7_work, 3, (some .int), 7, 2, 1, am_t121) := ⟨aw_4_114, plainFor_of_name (by decide +kernel), rfl, aw_1_14, ⟨by decide +kernel, by decide +kernel, by decide +kernel⟩, by decide, Or.inr (Or.inl ⟨rfl, aw_4_112, aw_4_113, by decide +kernel⟩), at_121⟩
theorem ap_122 : am_mP (yX7_notes, cX7_notes, 2, none, 7, 0, 1, am_t122) := ⟨aw_4_132, plainFor_of_name (by decide +kernel), rfl, aw_1_14, ⟨by decide +kernel, by decide +kernel, by decide +kernel⟩, by decide, Or.inr (Or.inl ⟨rfl, aw_4_131, aw_0_37, by decide +kernel⟩), at_122⟩
theorem ap_123 : am_mP (yX7_pass, cX7_pass, 2, (some .int), 7, 1, 1, am_t123) := ⟨aw_4_127, plainFor_of_name (by decide +kernel), rfl, aw_1_14, ⟨by decide +kernel, by decide +kernel, by decide +kernel⟩, by decide, Or.inr (Or.inl ⟨rfl, aw_4_125, aw_4_126, by decide +kernel⟩), at_123⟩
theorem ap_124 : am_mP (yX7_move, cX7_move, 4, (some .int), 7, 2, 1, am_t124) := ⟨aw_4_148, plainFor_of_name (by decide +kernel), rfl, aw_1_14, ⟨by decide +kernel, by decide +kernel, by decide +kernel⟩, by decide, Or.inr (Or.inl ⟨rfl, aw_4_146, aw_4_147, by decide +kernel⟩), at_124⟩
theorem ap_125 : am_mP (yX7_alter, cX7_alter, 3, (some .int), 7, 2, 1, am_t125) := ⟨aw_4_156, plainFor_of_name (by decide +kernel), rfl, aw_1_14, ⟨by decide +kernel, by decide +kernel, by decide +kernel⟩, by decide, Or.inr (Or.inl ⟨rfl, aw_4_154, aw_4_155, by decide +kernel⟩), at_125⟩
theorem ap_126 : am_mP (yX7_ration, cX7_ration, 2, (some .int), 7, 1, 1, am_t126) := ⟨aw_4_163, plainFor_of_name (by decide +kernel), rfl, aw_1_14, ⟨by decide +kernel, by decide +kernel, by decide +kernel⟩, by decide, Or.inr (Or.inl ⟨rfl, aw_4_161, aw_4_162, by decide +kernel⟩), at_126⟩
theorem ap_127 : am_mP (yX7_undo, cX7_undo, 2, (some .int), 7, 0, 1, am_t127) := ⟨aw_4_167, plainFor_of_name (by decide +kernel), rfl, aw_1_14, ⟨by decide +kernel, by decide +kernel, by decide +kernel⟩, by decide, Or.inr (Or.inl ⟨rfl, aw_4_165, aw_4_166, by decide +kernel⟩), at_127⟩
theorem ap_128 : am_mP (yX7_asides, cX7_asides, 2, none, 7, 0, 1, am_t128) := ⟨aw_4_180, plainFor_of_name (by decide +kernel), rfl, aw_1_14, ⟨by decide +kernel, by decide +kernel, by decide +kernel⟩, by decide, Or.inr (Or.inl ⟨rfl, aw_4_179, aw_0_43, by decide +kernel⟩), at_128⟩
theorem ap_129 : am_mP (yX7_backs, cX7_backs, 2, none, 7, 0, 1, am_t129) := ⟨aw_4_184, plainFor_of_name (by decide +kernel), rfl, aw_1_14, ⟨by decide +kernel, by decide +kernel, by decide +kernel⟩, by decide, Or.inr (Or.inl ⟨rfl, aw_4_183, aw_0_44, by decide +kernel⟩), at_129⟩
theorem ap_130 : am_mP (yX7_burnsIn, cX7_burnsIn, 2, none, 7, 1, 1, am_t130) := ⟨aw_4_176, plainFor_of_name (by decide +kernel), rfl, aw_1_14, ⟨by decide +kernel, by decide +kernel, by decide +kernel⟩, by decide, Or.inr (Or.inl ⟨rfl, aw_4_175, aw_0_42, by decide +kernel⟩), at_130⟩
theorem ap_131 : am_mP (yX7_light, cX7_light, 3, (some .int), 7, 2, 1, am_t131) := ⟨aw_4_171, plainFor_of_name (by decide +kernel), rfl, aw_1_14, ⟨by decide +kernel, by decide +kernel, by decide +kernel⟩, by decide, Or.inr (Or.inl ⟨rfl, aw_4_169, aw_4_170, by decide +kernel⟩), at_131⟩
theorem ap_132 : am_mP (yX7_lit, cX7_lit, 2, (some .int), 7, 1, 1, am_t132) := ⟨aw_4_192, plainFor_of_name (by decide +kernel), rfl, aw_1_14, ⟨by decide +kernel, by decide +kernel, by decide +kernel⟩, by decide, Or.inr (Or.inl ⟨rfl, aw_4_190, aw_4_191, by decide +kernel⟩), at_132⟩
theorem ap_133 : am_mP (yX7_reach, cX7_reach, 4, (some .int), 7, 1, 1, am_t133) := ⟨aw_4_196, plainFor_of_name (by decide +kernel), rfl, aw_1_14, ⟨by decide +kernel, by decide +kernel, by decide +kernel⟩, by decide, Or.inr (Or.inl ⟨rfl, aw_4_194, aw_4_195, by decide +kernel⟩), at_133⟩
theorem ap_134 : am_mP (yX7_first, cX7_first, 3, (some .int), 7, 0, 1, am_t134) := ⟨aw_4_200, plainFor_of_name (by decide +kernel), rfl, aw_1_14, ⟨by decide +kernel, by decide +kernel, by decide +kernel⟩, by decide, Or.inr (Or.inl ⟨rfl, aw_4_198, aw_4_199, by decide +kernel⟩), at_134⟩
theorem ap_135 : am_mP (yX7_movers, cX7_movers, 3, (some .int), 7, 0, 1, am_t135) := ⟨aw_4_212, plainFor_of_name (by decide +kernel), rfl, aw_1_14, ⟨by decide +kernel, by decide +kernel, by decide +kernel⟩, by decide, Or.inr (Or.inl ⟨rfl, aw_4_211, aw_0_47, by decide +kernel⟩), at_135⟩
theorem ap_136 : am_mP (yX7_isNext, cX7_isNext, 2, (some .boolean), 7, 0, 1, am_t136) := ⟨aw_4_216, plainFor_of_name (by decide +kernel), rfl, aw_1_14, ⟨by decide +kernel, by decide +kernel, by decide +kernel⟩, by decide, Or.inr (Or.inl ⟨rfl, aw_4_215, aw_0_48, by decide +kernel⟩), at_136⟩
theorem ap_137 : am_mP (yX7_seeksHomes, cX7_seeksHomes, 6, none, 7, 0, 1, am_t137) := ⟨aw_4_208, plainFor_of_name (by decide +kernel), rfl, aw_1_14, ⟨by decide +kernel, by decide +kernel, by decide +kernel⟩, by decide, Or.inr (Or.inl ⟨rfl, aw_4_207, aw_0_46, by decide +kernel⟩), at_137⟩
theorem ap_138 : am_mP (yX7_homes, cX7_homes, 2, (some .int), 7, 1, 1, am_t138) := ⟨aw_4_204, plainFor_of_name (by decide +kernel), rfl, aw_1_14, ⟨by decide +kernel, by decide +kernel, by decide +kernel⟩, by decide, Or.inr (Or.inl ⟨rfl, aw_4_202, aw_4_203, by decide +kernel⟩), at_138⟩
theorem ap_139 : am_mP (yX7_apart, cX7_apart, 13, (some .int), 7, 3, 1, am_t139) := ⟨aw_4_220, plainFor_of_name (by decide +kernel), rfl, aw_1_14, ⟨by decide +kernel, by decide +kernel, by decide +kernel⟩, by decide, Or.inr (Or.inl ⟨rfl, aw_4_218, aw_4_219, by decide +kernel⟩), at_139⟩
theorem ap_140 : am_mP (yX7_talk, cX7_talk, 12, (some .int), 7, 2, 1, am_t140) := ⟨aw_4_224, plainFor_of_name (by decide +kernel), rfl, aw_1_14, ⟨by decide +kernel, by decide +kernel, by decide +kernel⟩, by decide, Or.inr (Or.inl ⟨rfl, aw_4_222, aw_4_223, by decide +kernel⟩), at_140⟩
theorem ap_141 : am_mP (yX7_settles, cX7_settles, 5, (some .int), 7, 0, 1, am_t141) := ⟨aw_4_228, plainFor_of_name (by decide +kernel), rfl, aw_1_14, ⟨by decide +kernel, by decide +kernel, by decide +kernel⟩, by decide, Or.inr (Or.inl ⟨rfl, aw_4_226, aw_4_227, by decide +kernel⟩), at_141⟩
theorem ap_142 : am_mP (yX7_seen, cX7_seen, 3, (some .int), 7, 2, 1, am_t142) := ⟨aw_4_232, plainFor_of_name (by decide +kernel), rfl, aw_1_14, ⟨by decide +kernel, by decide +kernel, by decide +kernel⟩, by decide, Or.inr (Or.inl ⟨rfl, aw_4_230, aw_4_231, by decide +kernel⟩), at_142⟩
theorem ap_143 : am_mP (yX7_forget, cX7_forget, 2, (some .int), 7, 0, 1, am_t143) := ⟨aw_4_237, plainFor_of_name (by decide +kernel), rfl, aw_1_14, ⟨by decide +kernel, by decide +kernel, by decide +kernel⟩, by decide, Or.inr (Or.inl ⟨rfl, aw_4_235, aw_4_236, by decide +kernel⟩), at_143⟩
theorem ap_144 : am_mP (yX7_may, cX7_may, 9, (some .int), 7, 2, 1, am_t144) := ⟨aw_5_1, plainFor_of_name (by decide +kernel), rfl, aw_1_14, ⟨by decide +kernel, by decide +kernel, by decide +kernel⟩, by decide, Or.inr (Or.inl ⟨rfl, aw_4_239, aw_5_0, by decide +kernel⟩), at_144⟩
theorem ap_145 : am_mP (yX7_smokes, cX7_smokes, 1, (some .int), 7, 0, 1, am_t145) := ⟨aw_5_5, plainFor_of_name (by decide +kernel), rfl, aw_1_14, ⟨by decide +kernel, by decide +kernel, by decide +kernel⟩, by decide, Or.inr (Or.inl ⟨rfl, aw_5_3, aw_5_4, by decide +kernel⟩), at_145⟩
theorem ap_146 : am_mP (yX7_married, cX7_married, 11, (some .int), 7, 1, 1, am_t146) := ⟨aw_5_9, plainFor_of_name (by decide +kernel), rfl, aw_1_14, ⟨by decide +kernel, by decide +kernel, by decide +kernel⟩, by decide, Or.inr (Or.inl ⟨rfl, aw_5_7, aw_5_8, by decide +kernel⟩), at_146⟩
theorem ap_147 : am_mP (yX7_isSmoke, cX7_isSmoke, 9, (some .boolean), 7, 3, 1, am_t147) := ⟨aw_5_18, plainFor_of_name (by decide +kernel), rfl, aw_1_14, ⟨by decide +kernel, by decide +kernel, by decide +kernel⟩, by decide, Or.inr (Or.inl ⟨rfl, aw_5_17, aw_0_49, by decide +kernel⟩), at_147⟩
theorem ap_148 : am_mP (yX7_falseBy, cX7_falseBy, 11, (some .int), 7, 3, 1, am_t148) := ⟨aw_5_13, plainFor_of_name (by decide +kernel), rfl, aw_1_14, ⟨by decide +kernel, by decide +kernel, by decide +kernel⟩, by decide, Or.inr (Or.inl ⟨rfl, aw_5_11, aw_5_12, by decide +kernel⟩), at_148⟩
theorem ap_149 : am_mP (yX7_winter, cX7_winter, 11, (some .int), 7, 3, 1, am_t149) := ⟨aw_5_22, plainFor_of_name (by decide +kernel), rfl, aw_1_14, ⟨by decide +kernel, by decide +kernel, by decide +kernel⟩, by decide, Or.inr (Or.inl ⟨rfl, aw_5_20, aw_5_21, by decide +kernel⟩), at_149⟩
theorem ap_150 : am_mP (yX7_keep, cX7_keep, 2, (some .int), 7, 0, 1, am_t150) := ⟨aw_5_31, plainFor_of_name (by decide +kernel), rfl, aw_1_14, ⟨by decide +kernel, by decide +kernel, by decide +kernel⟩, by decide, Or.inr (Or.inl ⟨rfl, aw_5_29, aw_5_30, by decide +kernel⟩), at_150⟩
theorem ap_151 : am_mP (yX7_back, cX7_back, 2, (some .int), 7, 0, 1, am_t151) := ⟨aw_5_35, plainFor_of_name (by decide +kernel), rfl, aw_1_14, ⟨by decide +kernel, by decide +kernel, by decide +kernel⟩, by decide, Or.inr (Or.inl ⟨rfl, aw_5_33, aw_5_34, by decide +kernel⟩), at_151⟩
theorem ap_152 : am_mP (yX7_count, cX7_count, 2, (some .int), 7, 1, 1, am_t152) := ⟨aw_5_39, plainFor_of_name (by decide +kernel), rfl, aw_1_14, ⟨by decide +kernel, by decide +kernel, by decide +kernel⟩, by decide, Or.inr (Or.inl ⟨rfl, aw_5_37, aw_5_38, by decide +kernel⟩), at_152⟩
theorem ap_153 : am_mP (yJ6_bitCount_0f7a4, cJ6_bitCount_0f7a4, 1, (some .int), 10, 1, 0, am_t153) := ⟨aw_2_183, plainFor_of_name (by decide +kernel), rfl, aw_1_16, ⟨by decide +kernel, by decide +kernel, by decide +kernel⟩, by decide, Or.inl ⟨rfl, aw_2_182, by decide +kernel⟩, at_153⟩
theorem ap_154 : am_mP (yJ9_floorMod_7cf53, cJ9_floorMod_7cf53, 3, (some .int), 11, 2, 0, am_t154) := ⟨aw_2_152, by decide +kernel, rfl, aw_1_15, ⟨by decide +kernel, by decide +kernel, by decide +kernel⟩, by decide, Or.inl ⟨rfl, aw_2_151, by decide +kernel⟩, at_154⟩
theorem ap_155 : am_mP (yJ7_fill_53178, cJ7_fill_53178, 4, none, 14, 2, 0, am_t155) := ⟨aw_2_34, plainFor_of_name (by decide +kernel), rfl, aw_1_12, ⟨by decide +kernel, by decide +kernel, by decide +kernel⟩, by decide, Or.inl ⟨rfl, aw_2_33, by decide +kernel⟩, at_155⟩
theorem ap_156 : am_mP (yJ0_length_8abf5, cJ0_length_8abf5, 1, (some .int), 12, 0, 1, am_t156) := ⟨aw_1_207, plainFor_of_name (by decide +kernel), rfl, aw_1_8, ⟨by decide +kernel, by decide +kernel, by decide +kernel⟩, by decide, Or.inr (Or.inl ⟨rfl, aw_1_205, aw_1_206, by decide +kernel⟩), at_156⟩
theorem ap_157 : am_mP (yJ0_coder_7d493, cJ0_coder_7d493, 1, (some .byte), 12, 0, 1, am_t157) := ⟨aw_1_211, plainFor_of_name (by decide +kernel), rfl, aw_1_8, ⟨by decide +kernel, by decide +kernel, by decide +kernel⟩, by decide, Or.inr (Or.inl ⟨rfl, aw_1_209, aw_1_210, by decide +kernel⟩), at_157⟩
theorem ap_158 : am_mP (yJ0_charAt_5068e, cJ0_charAt_5068e, 2, (some .char), 12, 1, 1, am_t158) := ⟨aw_1_217, plainFor_of_name (by decide +kernel), rfl, aw_1_8, ⟨by decide +kernel, by decide +kernel, by decide +kernel⟩, by decide, Or.inr (Or.inl ⟨rfl, aw_1_215, aw_1_216, by decide +kernel⟩), at_158⟩
theorem ap_159 : am_mP (yJ0_isLatin1_aae02, cJ0_isLatin1_aae02, 1, (some .boolean), 12, 0, 1, am_t159) := ⟨aw_1_221, plainFor_of_name (by decide +kernel), rfl, aw_1_8, ⟨by decide +kernel, by decide +kernel, by decide +kernel⟩, by decide, Or.inr (Or.inl ⟨rfl, aw_1_219, aw_1_220, by decide +kernel⟩), at_159⟩
theorem ap_160 : am_mP (yJ1_charAt_3b067, cJ1_charAt_3b067, 2, (some .char), 13, 2, 0, am_t160) := ⟨aw_1_224, plainFor_of_name (by decide +kernel), rfl, aw_1_9, ⟨by decide +kernel, by decide +kernel, by decide +kernel⟩, by decide, Or.inl ⟨rfl, aw_1_223, by decide +kernel⟩, at_160⟩
theorem ap_161 : am_mP (yJ9_min_7cf53, cJ9_min_7cf53, 2, (some .int), 11, 2, 0, am_t161) := ⟨aw_2_193, by decide +kernel, rfl, aw_1_15, ⟨by decide +kernel, by decide +kernel, by decide +kernel⟩, by decide, Or.inl ⟨rfl, aw_2_192, by decide +kernel⟩, at_161⟩
theorem ap_162 : am_mP (yJ9_max_7cf53, cJ9_max_7cf53, 2, (some .int), 11, 2, 0, am_t162) := ⟨aw_2_215, by decide +kernel, rfl, aw_1_15, ⟨by decide +kernel, by decide +kernel, by decide +kernel⟩, by decide, Or.inl ⟨rfl, aw_2_214, by decide +kernel⟩, at_162⟩
theorem ap_163 : am_mP (yJ0_checkIndex_df160, cJ0_checkIndex_df160, 2, none, 12, 2, 0, am_t163) := ⟨aw_1_227, plainFor_of_name (by decide +kernel), rfl, aw_1_8, ⟨by decide +kernel, by decide +kernel, by decide +kernel⟩, by decide, Or.inl ⟨rfl, aw_1_226, by decide +kernel⟩, at_163⟩
theorem ap_164 : am_mP (yJ3_checkIndex_8e157, cJ3_checkIndex_8e157, 3, (some .int), 15, 3, 0, am_t164) := ⟨aw_1_232, plainFor_of_name (by decide +kernel), rfl, aw_1_10, ⟨by decide +kernel, by decide +kernel, by decide +kernel⟩, by decide, Or.inl ⟨rfl, aw_1_231, by decide +kernel⟩, at_164⟩
theorem ap_c0 : ∀ q ∈ am_m0, am_mP q := List.forall_mem_cons.mpr ⟨ap_0, List.forall_mem_cons.mpr ⟨ap_1, List.forall_mem_cons.mpr ⟨ap_2, List.forall_mem_cons.mpr ⟨ap_3, List.forall_mem_cons.mpr ⟨ap_4, List.forall_mem_cons.mpr ⟨ap_5, List.forall_mem_cons.mpr ⟨ap_6, List.forall_mem_cons.mpr ⟨ap_7, List.forall_mem_cons.mpr ⟨ap_8, List.forall_mem_cons.mpr ⟨ap_9, List.forall_mem_cons.mpr ⟨ap_10, List.forall_mem_cons.mpr ⟨ap_11, List.forall_mem_cons.mpr ⟨ap_12, List.forall_mem_cons.mpr ⟨ap_13, List.forall_mem_cons.mpr ⟨ap_14, List.forall_mem_cons.mpr ⟨ap_15, List.forall_mem_cons.mpr ⟨ap_16, List.forall_mem_cons.mpr ⟨ap_17, List.forall_mem_cons.mpr ⟨ap_18, List.forall_mem_cons.mpr ⟨ap_19, fun _ h => absurd h List.not_mem_nil⟩⟩⟩⟩⟩⟩⟩⟩⟩⟩⟩⟩⟩⟩⟩⟩⟩⟩⟩⟩
theorem ap_c1 : ∀ q ∈ am_m1, am_mP q := List.forall_mem_cons.mpr ⟨ap_20, List.forall_mem_cons.mpr ⟨ap_21, List.forall_mem_cons.mpr ⟨ap_22, List.forall_mem_cons.mpr ⟨ap_23, List.forall_mem_cons.mpr ⟨ap_24, List.forall_mem_cons.mpr ⟨ap_25, List.forall_mem_cons.mpr ⟨ap_26, List.forall_mem_cons.mpr ⟨ap_27, List.forall_mem_cons.mpr ⟨ap_28, List.forall_mem_cons.mpr ⟨ap_29, List.forall_mem_cons.mpr ⟨ap_30, List.forall_mem_cons.mpr ⟨ap_31, List.forall_mem_cons.mpr ⟨ap_32, List.forall_mem_cons.mpr ⟨ap_33, List.forall_mem_cons.mpr ⟨ap_34, List.forall_mem_cons.mpr ⟨ap_35, List.forall_mem_cons.mpr ⟨ap_36, List.forall_mem_cons.mpr ⟨ap_37, List.forall_mem_cons.mpr ⟨ap_38, List.forall_mem_cons.mpr ⟨ap_39, fun _ h => absurd h List.not_mem_nil⟩⟩⟩⟩⟩⟩⟩⟩⟩⟩⟩⟩⟩⟩⟩⟩⟩⟩⟩⟩
theorem ap_c2 : ∀ q ∈ am_m2, am_mP q := List.forall_mem_cons.mpr ⟨ap_40, List.forall_mem_cons.mpr ⟨ap_41, List.forall_mem_cons.mpr ⟨ap_42, List.forall_mem_cons.mpr ⟨ap_43, List.forall_mem_cons.mpr ⟨ap_44, List.forall_mem_cons.mpr ⟨ap_45, List.forall_mem_cons.mpr ⟨ap_46, List.forall_mem_cons.mpr ⟨ap_47, List.forall_mem_cons.mpr ⟨ap_48, List.forall_mem_cons.mpr ⟨ap_49, List.forall_mem_cons.mpr ⟨ap_50, List.forall_mem_cons.mpr ⟨ap_51, List.forall_mem_cons.mpr ⟨ap_52, List.forall_mem_cons.mpr ⟨ap_53, List.forall_mem_cons.mpr ⟨ap_54, List.forall_mem_cons.mpr ⟨ap_55, List.forall_mem_cons.mpr ⟨ap_56, List.forall_mem_cons.mpr ⟨ap_57, List.forall_mem_cons.mpr ⟨ap_58, List.forall_mem_cons.mpr ⟨ap_59, fun _ h => absurd h List.not_mem_nil⟩⟩⟩⟩⟩⟩⟩⟩⟩⟩⟩⟩⟩⟩⟩⟩⟩⟩⟩⟩
theorem ap_c3 : ∀ q ∈ am_m3, am_mP q := List.forall_mem_cons.mpr ⟨ap_60, List.forall_mem_cons.mpr ⟨ap_61, List.forall_mem_cons.mpr ⟨ap_62, List.forall_mem_cons.mpr ⟨ap_63, List.forall_mem_cons.mpr ⟨ap_64, List.forall_mem_cons.mpr ⟨ap_65, List.forall_mem_cons.mpr ⟨ap_66, List.forall_mem_cons.mpr ⟨ap_67, List.forall_mem_cons.mpr ⟨ap_68, List.forall_mem_cons.mpr ⟨ap_69, List.forall_mem_cons.mpr ⟨ap_70, List.forall_mem_cons.mpr ⟨ap_71, List.forall_mem_cons.mpr ⟨ap_72, List.forall_mem_cons.mpr ⟨ap_73, List.forall_mem_cons.mpr ⟨ap_74, List.forall_mem_cons.mpr ⟨ap_75, List.forall_mem_cons.mpr ⟨ap_76, List.forall_mem_cons.mpr ⟨ap_77, List.forall_mem_cons.mpr ⟨ap_78, List.forall_mem_cons.mpr ⟨ap_79, fun _ h => absurd h List.not_mem_nil⟩⟩⟩⟩⟩⟩⟩⟩⟩⟩⟩⟩⟩⟩⟩⟩⟩⟩⟩⟩
theorem ap_c4 : ∀ q ∈ am_m4, am_mP q := List.forall_mem_cons.mpr ⟨ap_80, List.forall_mem_cons.mpr ⟨ap_81, List.forall_mem_cons.mpr ⟨ap_82, List.forall_mem_cons.mpr ⟨ap_83, List.forall_mem_cons.mpr ⟨ap_84, List.forall_mem_cons.mpr ⟨ap_85, List.forall_mem_cons.mpr ⟨ap_86, List.forall_mem_cons.mpr ⟨ap_87, List.forall_mem_cons.mpr ⟨ap_88, List.forall_mem_cons.mpr ⟨ap_89, List.forall_mem_cons.mpr ⟨ap_90, List.forall_mem_cons.mpr ⟨ap_91, List.forall_mem_cons.mpr ⟨ap_92, List.forall_mem_cons.mpr ⟨ap_93, List.forall_mem_cons.mpr ⟨ap_94, List.forall_mem_cons.mpr ⟨ap_95, List.forall_mem_cons.mpr ⟨ap_96, List.forall_mem_cons.mpr ⟨ap_97, List.forall_mem_cons.mpr ⟨ap_98, List.forall_mem_cons.mpr ⟨ap_99, fun _ h => absurd h List.not_mem_nil⟩⟩⟩⟩⟩⟩⟩⟩⟩⟩⟩⟩⟩⟩⟩⟩⟩⟩⟩⟩
theorem ap_c5 : ∀ q ∈ am_m5, am_mP q := List.forall_mem_cons.mpr ⟨ap_100, List.forall_mem_cons.mpr ⟨ap_101, List.forall_mem_cons.mpr ⟨ap_102, List.forall_mem_cons.mpr ⟨ap_103, List.forall_mem_cons.mpr ⟨ap_104, List.forall_mem_cons.mpr ⟨ap_105, List.forall_mem_cons.mpr ⟨ap_106, List.forall_mem_cons.mpr ⟨ap_107, List.forall_mem_cons.mpr ⟨ap_108, List.forall_mem_cons.mpr ⟨ap_109, List.forall_mem_cons.mpr ⟨ap_110, List.forall_mem_cons.mpr ⟨ap_111, List.forall_mem_cons.mpr ⟨ap_112, List.forall_mem_cons.mpr ⟨ap_113, List.forall_mem_cons.mpr ⟨ap_114, List.forall_mem_cons.mpr ⟨ap_115, List.forall_mem_cons.mpr ⟨ap_116, List.forall_mem_cons.mpr ⟨ap_117, List.forall_mem_cons.mpr ⟨ap_118, List.forall_mem_cons.mpr ⟨ap_119, fun _ h => absurd h List.not_mem_nil⟩⟩⟩⟩⟩⟩⟩⟩⟩⟩⟩⟩⟩⟩⟩⟩⟩⟩⟩⟩
theorem ap_c6 : ∀ q ∈ am_m6, am_mP q := List.forall_mem_cons.mpr ⟨ap_120, List.forall_mem_cons.mpr ⟨ap_121, List.forall_mem_cons.mpr ⟨ap_122, List.forall_mem_cons.mpr ⟨ap_123, List.forall_mem_cons.mpr ⟨ap_124, List.forall_mem_cons.mpr ⟨ap_125, List.forall_mem_cons.mpr ⟨ap_126, List.forall_mem_cons.mpr ⟨ap_127, List.forall_mem_cons.mpr ⟨ap_128, List.forall_mem_cons.mpr ⟨ap_129, List.forall_mem_cons.mpr ⟨ap_130, List.forall_mem_cons.mpr ⟨ap_131, List.forall_mem_cons.mpr ⟨ap_132, List.forall_mem_cons.mpr ⟨ap_133, List.forall_mem_cons.mpr ⟨ap_134, List.forall_mem_cons.mpr ⟨ap_135, List.forall_mem_cons.mpr ⟨ap_136, List.forall_mem_cons.mpr ⟨ap_137, List.forall_mem_cons.mpr ⟨ap_138, List.forall_mem_cons.mpr ⟨ap_139, fun _ h => absurd h List.not_mem_nil⟩⟩⟩⟩⟩⟩⟩⟩⟩⟩⟩⟩⟩⟩⟩⟩⟩⟩⟩⟩
theorem ap_c7 : ∀ q ∈ am_m7, am_mP q := List.forall_mem_cons.mpr ⟨ap_140, List.forall_mem_cons.mpr ⟨ap_141, List.forall_mem_cons.mpr ⟨ap_142, List.forall_mem_cons.mpr ⟨ap_143, List.forall_mem_cons.mpr ⟨ap_144, List.forall_mem_cons.mpr ⟨ap_145, List.forall_mem_cons.mpr ⟨ap_146, List.forall_mem_cons.mpr ⟨ap_147, List.forall_mem_cons.mpr ⟨ap_148, List.forall_mem_cons.mpr ⟨ap_149, List.forall_mem_cons.mpr ⟨ap_150, List.forall_mem_cons.mpr ⟨ap_151, List.forall_mem_cons.mpr ⟨ap_152, List.forall_mem_cons.mpr ⟨ap_153, List.forall_mem_cons.mpr ⟨ap_154, List.forall_mem_cons.mpr ⟨ap_155, List.forall_mem_cons.mpr ⟨ap_156, List.forall_mem_cons.mpr ⟨ap_157, List.forall_mem_cons.mpr ⟨ap_158, List.forall_mem_cons.mpr ⟨ap_159, fun _ h => absurd h List.not_mem_nil⟩⟩⟩⟩⟩⟩⟩⟩⟩⟩⟩⟩⟩⟩⟩⟩⟩⟩⟩⟩
theorem ap_c8 : ∀ q ∈ am_m8, am_mP q := List.forall_mem_cons.mpr ⟨ap_160, List.forall_mem_cons.mpr ⟨ap_161, List.forall_mem_cons.mpr ⟨ap_162, List.forall_mem_cons.mpr ⟨ap_163, List.forall_mem_cons.mpr ⟨ap_164, fun _ h => absurd h List.not_mem_nil⟩⟩⟩⟩⟩
theorem ap_all : ∀ q ∈ am_mt, am_mP q := fun q => (fun h => (List.mem_append.mp h).elim (ap_c0 q) ((fun h => (List.mem_append.mp h).elim (ap_c1 q) ((fun h => (List.mem_append.mp h).elim (ap_c2 q) ((fun h => (List.mem_append.mp h).elim (ap_c3 q) ((fun h => (List.mem_append.mp h).elim (ap_c4 q) ((fun h => (List.mem_append.mp h).elim (ap_c5 q) ((fun h => (List.mem_append.mp h).elim (ap_c6 q) ((fun h => (List.mem_append.mp h).elim (ap_c7 q) (ap_c8 q))))))))))))))))
def am_lP (q : (Nat × Nat) × Nat) : Prop := (q.2 = 900 ∧ Cond.methodLink (am_on q.1.1) q.1.2 arraycopyName ∈ am_bw) ∨ (q.2 = 901 ∧ Cond.methodLink (am_on q.1.1) q.1.2 objectInit ∈ am_bw) ∨ (q.2 < 900 ∧ ∀ r : am_R, am_mt[q.2]? = some r → Cond.methodLink (am_on q.1.1) q.1.2 r.1 ∈ am_bw ∨ ∃ host, Cond.methodLinkNest (am_on q.1.1) q.1.2 r.1 host ∈ am_nest)
theorem al_0 : am_lP ((0, 3), 901) := Or.inr (Or.inl ⟨rfl, aw_1_51⟩)
theorem al_1 : am_lP ((0, 11), 16) := Or.inr (Or.inr ⟨by decide, fun r h => by rw [am_mt_16] at h; cases h; exact Or.inr ⟨_, List.mem_of_getElem? (i := 34) rfl⟩⟩)
theorem al_2 : am_lP ((0, 28), 17) := Or.inr (Or.inr ⟨by decide, fun r h => by rw [am_mt_17] at h; cases h; exact Or.inl aw_2_28⟩)
theorem al_3 : am_lP ((0, 62), 154) := Or.inr (Or.inr ⟨by decide, fun r h => by rw [am_mt_154] at h; cases h; exact Or.inl aw_2_150⟩)
theorem al_4 : am_lP ((0, 68), 25) := Or.inr (Or.inr ⟨by decide, fun r h => by rw [am_mt_25] at h; cases h; exact Or.inl aw_2_173⟩)
theorem al_5 : am_lP ((1, 3), 901) := Or.inr (Or.inl ⟨rfl, aw_1_157⟩)
theorem al_6 : am_lP ((1, 24), 7) := Or.inr (Or.inr ⟨by decide, fun r h => by rw [am_mt_7] at h; cases h; exact Or.inl aw_3_44⟩)
theorem al_7 : am_lP ((1, 30), 22) := Or.inr (Or.inr ⟨by decide, fun r h => by rw [am_mt_22] at h; cases h; exact Or.inl aw_3_45⟩)
theorem al_8 : am_lP ((1, 35), 155) := Or.inr (Or.inr ⟨by decide, fun r h => by rw [am_mt_155] at h; cases h; exact Or.inl aw_3_46⟩)
theorem al_9 : am_lP ((1, 48), 13) := Or.inr (Or.inr ⟨by decide, fun r h => by rw [am_mt_13] at h; cases h; exact Or.inl aw_3_47⟩)
theorem al_10 : am_lP ((1, 55), 15) := Or.inr (Or.inr ⟨by decide, fun r h => by rw [am_mt_15] at h; cases h; exact Or.inl aw_3_50⟩)
theorem al_11 : am_lP ((1, 68), 14) := Or.inr (Or.inr ⟨by decide, fun r h => by rw [am_mt_14] at h; cases h; exact Or.inl aw_3_55⟩)
theorem al_12 : am_lP ((1, 78), 900) := Or.inl ⟨rfl, aw_3_54⟩
theorem al_13 : am_lP ((2, 3), 901) := Or.inr (Or.inl ⟨rfl, aw_1_57⟩)
theorem al_14 : am_lP ((2, 27), 155) := Or.inr (Or.inr ⟨by decide, fun r h => by rw [am_mt_155] at h; cases h; exact Or.inl aw_2_32⟩)
theorem al_15 : am_lP ((2, 40), 900) := Or.inl ⟨rfl, aw_2_75⟩
theorem al_16 : am_lP ((2, 46), 20) := Or.inr (Or.inr ⟨by decide, fun r h => by rw [am_mt_20] at h; cases h; exact Or.inl aw_2_161⟩)
theorem al_17 : am_lP ((2, 50), 153) := Or.inr (Or.inr ⟨by decide, fun r h => by rw [am_mt_153] at h; cases h; exact Or.inl aw_2_181⟩)
theorem al_18 : am_lP ((2, 56), 21) := Or.inr (Or.inr ⟨by decide, fun r h => by rw [am_mt_21] at h; cases h; exact Or.inl aw_2_187⟩)
theorem al_19 : am_lP ((2, 60), 19) := Or.inr (Or.inr ⟨by decide, fun r h => by rw [am_mt_19] at h; cases h; exact Or.inl aw_2_157⟩)
theorem al_20 : am_lP ((2, 63), 22) := Or.inr (Or.inr ⟨by decide, fun r h => by rw [am_mt_22] at h; cases h; exact Or.inl aw_2_177⟩)
theorem al_21 : am_lP ((2, 66), 161) := Or.inr (Or.inr ⟨by decide, fun r h => by rw [am_mt_161] at h; cases h; exact Or.inl aw_2_191⟩)
theorem al_22 : am_lP ((2, 72), 23) := Or.inr (Or.inr ⟨by decide, fun r h => by rw [am_mt_23] at h; cases h; exact Or.inl aw_2_208⟩)
theorem al_23 : am_lP ((2, 75), 29) := Or.inr (Or.inr ⟨by decide, fun r h => by rw [am_mt_29] at h; cases h; exact Or.inl aw_2_209⟩)
theorem al_24 : am_lP ((2, 78), 30) := Or.inr (Or.inr ⟨by decide, fun r h => by rw [am_mt_30] at h; cases h; exact Or.inl aw_2_216⟩)
theorem al_25 : am_lP ((2, 81), 162) := Or.inr (Or.inr ⟨by decide, fun r h => by rw [am_mt_162] at h; cases h; exact Or.inl aw_2_213⟩)
theorem al_26 : am_lP ((3, 3), 901) := Or.inr (Or.inl ⟨rfl, aw_1_137⟩)
theorem al_27 : am_lP ((3, 17), 16) := Or.inr (Or.inr ⟨by decide, fun r h => by rw [am_mt_16] at h; cases h; exact Or.inr ⟨_, List.mem_of_getElem? (i := 36) rfl⟩⟩)
theorem al_28 : am_lP ((3, 22), 18) := Or.inr (Or.inr ⟨by decide, fun r h => by rw [am_mt_18] at h; cases h; exact Or.inl aw_2_202⟩)
theorem al_29 : am_lP ((3, 29), 161) := Or.inr (Or.inr ⟨by decide, fun r h => by rw [am_mt_161] at h; cases h; exact Or.inl aw_2_203⟩)
theorem al_30 : am_lP ((4, 3), 901) := Or.inr (Or.inl ⟨rfl, aw_1_185⟩)
theorem al_31 : am_lP ((4, 24), 16) := Or.inr (Or.inr ⟨by decide, fun r h => by rw [am_mt_16] at h; cases h; exact Or.inr ⟨_, List.mem_of_getElem? (i := 38) rfl⟩⟩)
theorem al_32 : am_lP ((4, 25), 18) := Or.inr (Or.inr ⟨by decide, fun r h => by rw [am_mt_18] at h; cases h; exact Or.inl aw_3_78⟩)
theorem al_33 : am_lP ((4, 33), 36) := Or.inr (Or.inr ⟨by decide, fun r h => by rw [am_mt_36] at h; cases h; exact Or.inl aw_3_79⟩)
theorem al_34 : am_lP ((4, 37), 37) := Or.inr (Or.inr ⟨by decide, fun r h => by rw [am_mt_37] at h; cases h; exact Or.inl aw_3_82⟩)
theorem al_35 : am_lP ((4, 44), 28) := Or.inr (Or.inr ⟨by decide, fun r h => by rw [am_mt_28] at h; cases h; exact Or.inl aw_3_87⟩)
theorem al_36 : am_lP ((4, 47), 8) := Or.inr (Or.inr ⟨by decide, fun r h => by rw [am_mt_8] at h; cases h; exact Or.inl aw_3_88⟩)
theorem al_37 : am_lP ((4, 53), 900) := Or.inl ⟨rfl, aw_3_86⟩
theorem al_38 : am_lP ((5, 3), 901) := Or.inr (Or.inl ⟨rfl, aw_1_30⟩)
theorem al_39 : am_lP ((5, 22), 1) := Or.inr (Or.inr ⟨by decide, fun r h => by rw [am_mt_1] at h; cases h; exact Or.inl aw_2_24⟩)
theorem al_40 : am_lP ((5, 30), 41) := Or.inr (Or.inr ⟨by decide, fun r h => by rw [am_mt_41] at h; cases h; exact Or.inl aw_2_35⟩)
theorem al_41 : am_lP ((5, 34), 44) := Or.inr (Or.inr ⟨by decide, fun r h => by rw [am_mt_44] at h; cases h; exact Or.inl aw_2_39⟩)
theorem al_42 : am_lP ((5, 38), 42) := Or.inr (Or.inr ⟨by decide, fun r h => by rw [am_mt_42] at h; cases h; exact Or.inl aw_2_43⟩)
theorem al_43 : am_lP ((5, 42), 2) := Or.inr (Or.inr ⟨by decide, fun r h => by rw [am_mt_2] at h; cases h; exact Or.inl aw_2_51⟩)
theorem al_44 : am_lP ((5, 46), 3) := Or.inr (Or.inr ⟨by decide, fun r h => by rw [am_mt_3] at h; cases h; exact Or.inl aw_2_55⟩)
theorem al_45 : am_lP ((5, 49), 4) := Or.inr (Or.inr ⟨by decide, fun r h => by rw [am_mt_4] at h; cases h; exact Or.inl aw_2_59⟩)
theorem al_46 : am_lP ((5, 53), 5) := Or.inr (Or.inr ⟨by decide, fun r h => by rw [am_mt_5] at h; cases h; exact Or.inl aw_2_63⟩)
theorem al_47 : am_lP ((5, 56), 43) := Or.inr (Or.inr ⟨by decide, fun r h => by rw [am_mt_43] at h; cases h; exact Or.inl aw_2_47⟩)
theorem al_48 : am_lP ((6, 1), 901) := Or.inr (Or.inl ⟨rfl, aw_1_22⟩)
theorem al_49 : am_lP ((6, 9), 38) := Or.inr (Or.inr ⟨by decide, fun r h => by rw [am_mt_38] at h; cases h; exact Or.inr ⟨_, List.mem_of_getElem? (i := 32) rfl⟩⟩)
theorem al_50 : am_lP ((6, 18), 0) := Or.inr (Or.inr ⟨by decide, fun r h => by rw [am_mt_0] at h; cases h; exact Or.inr ⟨_, List.mem_of_getElem? (i := 33) rfl⟩⟩)
theorem al_51 : am_lP ((6, 28), 16) := Or.inr (Or.inr ⟨by decide, fun r h => by rw [am_mt_16] at h; cases h; exact Or.inr ⟨_, List.mem_of_getElem? (i := 35) rfl⟩⟩)
theorem al_52 : am_lP ((6, 38), 31) := Or.inr (Or.inr ⟨by decide, fun r h => by rw [am_mt_31] at h; cases h; exact Or.inl aw_1_134⟩)
theorem al_53 : am_lP ((6, 56), 11) := Or.inr (Or.inr ⟨by decide, fun r h => by rw [am_mt_11] at h; cases h; exact Or.inr ⟨_, List.mem_of_getElem? (i := 37) rfl⟩⟩)
theorem al_54 : am_lP ((6, 63), 34) := Or.inr (Or.inr ⟨by decide, fun r h => by rw [am_mt_34] at h; cases h; exact Or.inl aw_1_182⟩)
theorem al_55 : am_lP ((6, 73), 156) := Or.inr (Or.inr ⟨by decide, fun r h => by rw [am_mt_156] at h; cases h; exact Or.inl aw_1_204⟩)
theorem al_56 : am_lP ((6, 79), 158) := Or.inr (Or.inr ⟨by decide, fun r h => by rw [am_mt_158] at h; cases h; exact Or.inl aw_1_214⟩)
theorem al_57 : am_lP ((6, 83), 39) := Or.inr (Or.inr ⟨by decide, fun r h => by rw [am_mt_39] at h; cases h; exact Or.inl aw_2_12⟩)
theorem al_58 : am_lP ((6, 87), 78) := Or.inr (Or.inr ⟨by decide, fun r h => by rw [am_mt_78] at h; cases h; exact Or.inl aw_2_16⟩)
theorem al_59 : am_lP ((6, 94), 40) := Or.inr (Or.inr ⟨by decide, fun r h => by rw [am_mt_40] at h; cases h; exact Or.inl aw_2_20⟩)
theorem al_60 : am_lP ((6, 101), 75) := Or.inr (Or.inr ⟨by decide, fun r h => by rw [am_mt_75] at h; cases h; exact Or.inl aw_2_142⟩)
theorem al_61 : am_lP ((6, 116), 7) := Or.inr (Or.inr ⟨by decide, fun r h => by rw [am_mt_7] at h; cases h; exact Or.inl aw_2_146⟩)
theorem al_62 : am_lP ((6, 120), 23) := Or.inr (Or.inr ⟨by decide, fun r h => by rw [am_mt_23] at h; cases h; exact Or.inl aw_2_153⟩)
theorem al_63 : am_lP ((6, 133), 9) := Or.inr (Or.inr ⟨by decide, fun r h => by rw [am_mt_9] at h; cases h; exact Or.inl aw_2_169⟩)
theorem al_64 : am_lP ((6, 140), 32) := Or.inr (Or.inr ⟨by decide, fun r h => by rw [am_mt_32] at h; cases h; exact Or.inl aw_2_198⟩)
theorem al_65 : am_lP ((6, 144), 28) := Or.inr (Or.inr ⟨by decide, fun r h => by rw [am_mt_28] at h; cases h; exact Or.inl aw_2_204⟩)
theorem al_66 : am_lP ((6, 148), 76) := Or.inr (Or.inr ⟨by decide, fun r h => by rw [am_mt_76] at h; cases h; exact Or.inl aw_2_224⟩)
theorem al_67 : am_lP ((6, 151), 77) := Or.inr (Or.inr ⟨by decide, fun r h => by rw [am_mt_77] at h; cases h; exact Or.inl aw_2_232⟩)
theorem al_68 : am_lP ((6, 157), 33) := Or.inr (Or.inr ⟨by decide, fun r h => by rw [am_mt_33] at h; cases h; exact Or.inl aw_3_3⟩)
theorem al_69 : am_lP ((6, 164), 79) := Or.inr (Or.inr ⟨by decide, fun r h => by rw [am_mt_79] at h; cases h; exact Or.inl aw_3_11⟩)
theorem al_70 : am_lP ((6, 167), 8) := Or.inr (Or.inr ⟨by decide, fun r h => by rw [am_mt_8] at h; cases h; exact Or.inl aw_3_15⟩)
theorem al_71 : am_lP ((6, 170), 25) := Or.inr (Or.inr ⟨by decide, fun r h => by rw [am_mt_25] at h; cases h; exact Or.inl aw_3_19⟩)
theorem al_72 : am_lP ((6, 173), 10) := Or.inr (Or.inr ⟨by decide, fun r h => by rw [am_mt_10] at h; cases h; exact Or.inl aw_3_28⟩)
theorem al_73 : am_lP ((6, 179), 18) := Or.inr (Or.inr ⟨by decide, fun r h => by rw [am_mt_18] at h; cases h; exact Or.inl aw_2_71⟩)
theorem al_74 : am_lP ((6, 182), 12) := Or.inr (Or.inr ⟨by decide, fun r h => by rw [am_mt_12] at h; cases h; exact Or.inl aw_3_40⟩)
theorem al_75 : am_lP ((6, 195), 19) := Or.inr (Or.inr ⟨by decide, fun r h => by rw [am_mt_19] at h; cases h; exact Or.inl aw_3_63⟩)
theorem al_76 : am_lP ((6, 199), 161) := Or.inr (Or.inr ⟨by decide, fun r h => by rw [am_mt_161] at h; cases h; exact Or.inl aw_3_64⟩)
theorem al_77 : am_lP ((6, 204), 162) := Or.inr (Or.inr ⟨by decide, fun r h => by rw [am_mt_162] at h; cases h; exact Or.inl aw_3_65⟩)
theorem al_78 : am_lP ((6, 207), 80) := Or.inr (Or.inr ⟨by decide, fun r h => by rw [am_mt_80] at h; cases h; exact Or.inl aw_3_66⟩)
theorem al_79 : am_lP ((6, 210), 35) := Or.inr (Or.inr ⟨by decide, fun r h => by rw [am_mt_35] at h; cases h; exact Or.inl aw_3_74⟩)
theorem al_80 : am_lP ((6, 217), 81) := Or.inr (Or.inr ⟨by decide, fun r h => by rw [am_mt_81] at h; cases h; exact Or.inl aw_3_93⟩)
theorem al_81 : am_lP ((6, 224), 82) := Or.inr (Or.inr ⟨by decide, fun r h => by rw [am_mt_82] at h; cases h; exact Or.inl aw_3_108⟩)
theorem al_82 : am_lP ((6, 227), 26) := Or.inr (Or.inr ⟨by decide, fun r h => by rw [am_mt_26] at h; cases h; exact Or.inl aw_3_116⟩)
theorem al_83 : am_lP ((6, 230), 155) := Or.inr (Or.inr ⟨by decide, fun r h => by rw [am_mt_155] at h; cases h; exact Or.inl aw_3_124⟩)
theorem al_84 : am_lP ((6, 236), 83) := Or.inr (Or.inr ⟨by decide, fun r h => by rw [am_mt_83] at h; cases h; exact Or.inl aw_3_125⟩)
theorem al_85 : am_lP ((6, 239), 84) := Or.inr (Or.inr ⟨by decide, fun r h => by rw [am_mt_84] at h; cases h; exact Or.inl aw_3_134⟩)
theorem al_86 : am_lP ((6, 242), 24) := Or.inr (Or.inr ⟨by decide, fun r h => by rw [am_mt_24] at h; cases h; exact Or.inl aw_3_138⟩)
theorem al_87 : am_lP ((6, 246), 153) := Or.inr (Or.inr ⟨by decide, fun r h => by rw [am_mt_153] at h; cases h; exact Or.inl aw_3_129⟩)
theorem al_88 : am_lP ((6, 251), 85) := Or.inr (Or.inr ⟨by decide, fun r h => by rw [am_mt_85] at h; cases h; exact Or.inl aw_3_146⟩)
theorem al_89 : am_lP ((6, 254), 86) := Or.inr (Or.inr ⟨by decide, fun r h => by rw [am_mt_86] at h; cases h; exact Or.inl aw_3_149⟩)
theorem al_90 : am_lP ((6, 258), 87) := Or.inr (Or.inr ⟨by decide, fun r h => by rw [am_mt_87] at h; cases h; exact Or.inl aw_3_156⟩)
theorem al_91 : am_lP ((6, 261), 88) := Or.inr (Or.inr ⟨by decide, fun r h => by rw [am_mt_88] at h; cases h; exact Or.inl aw_3_163⟩)
theorem al_92 : am_lP ((6, 268), 6) := Or.inr (Or.inr ⟨by decide, fun r h => by rw [am_mt_6] at h; cases h; exact Or.inl aw_2_67⟩)
theorem al_93 : am_lP ((6, 274), 27) := Or.inr (Or.inr ⟨by decide, fun r h => by rw [am_mt_27] at h; cases h; exact Or.inl aw_3_142⟩)
theorem al_94 : am_lP ((7, 1), 901) := Or.inr (Or.inl ⟨rfl, aw_3_184⟩)
theorem al_95 : am_lP ((7, 49), 91) := Or.inr (Or.inr ⟨by decide, fun r h => by rw [am_mt_91] at h; cases h; exact Or.inl aw_3_185⟩)
theorem al_96 : am_lP ((7, 53), 92) := Or.inr (Or.inr ⟨by decide, fun r h => by rw [am_mt_92] at h; cases h; exact Or.inl aw_3_189⟩)
theorem al_97 : am_lP ((7, 57), 89) := Or.inr (Or.inr ⟨by decide, fun r h => by rw [am_mt_89] at h; cases h; exact Or.inl aw_4_29⟩)
theorem al_98 : am_lP ((7, 78), 101) := Or.inr (Or.inr ⟨by decide, fun r h => by rw [am_mt_101] at h; cases h; exact Or.inl aw_4_48⟩)
theorem al_99 : am_lP ((7, 85), 102) := Or.inr (Or.inr ⟨by decide, fun r h => by rw [am_mt_102] at h; cases h; exact Or.inl aw_4_44⟩)
theorem al_100 : am_lP ((7, 92), 103) := Or.inr (Or.inr ⟨by decide, fun r h => by rw [am_mt_103] at h; cases h; exact Or.inl aw_4_54⟩)
theorem al_101 : am_lP ((7, 95), 104) := Or.inr (Or.inr ⟨by decide, fun r h => by rw [am_mt_104] at h; cases h; exact Or.inl aw_4_58⟩)
theorem al_102 : am_lP ((7, 98), 105) := Or.inr (Or.inr ⟨by decide, fun r h => by rw [am_mt_105] at h; cases h; exact Or.inl aw_4_62⟩)
theorem al_103 : am_lP ((7, 101), 106) := Or.inr (Or.inr ⟨by decide, fun r h => by rw [am_mt_106] at h; cases h; exact Or.inl aw_4_40⟩)
theorem al_104 : am_lP ((7, 104), 107) := Or.inr (Or.inr ⟨by decide, fun r h => by rw [am_mt_107] at h; cases h; exact Or.inl aw_4_70⟩)
theorem al_105 : am_lP ((7, 117), 97) := Or.inr (Or.inr ⟨by decide, fun r h => by rw [am_mt_97] at h; cases h; exact Or.inl aw_4_100⟩)
theorem al_106 : am_lP ((7, 121), 98) := Or.inr (Or.inr ⟨by decide, fun r h => by rw [am_mt_98] at h; cases h; exact Or.inl aw_4_92⟩)
theorem al_107 : am_lP ((7, 124), 110) := Or.inr (Or.inr ⟨by decide, fun r h => by rw [am_mt_110] at h; cases h; exact Or.inl aw_4_96⟩)
theorem al_108 : am_lP ((7, 128), 96) := Or.inr (Or.inr ⟨by decide, fun r h => by rw [am_mt_96] at h; cases h; exact Or.inl aw_4_104⟩)
theorem al_109 : am_lP ((7, 131), 109) := Or.inr (Or.inr ⟨by decide, fun r h => by rw [am_mt_109] at h; cases h; exact Or.inl aw_4_108⟩)
theorem al_110 : am_lP ((7, 137), 111) := Or.inr (Or.inr ⟨by decide, fun r h => by rw [am_mt_111] at h; cases h; exact Or.inl aw_4_88⟩)
theorem al_111 : am_lP ((7, 141), 117) := Or.inr (Or.inr ⟨by decide, fun r h => by rw [am_mt_117] at h; cases h; exact Or.inl aw_4_84⟩)
theorem al_112 : am_lP ((7, 145), 116) := Or.inr (Or.inr ⟨by decide, fun r h => by rw [am_mt_116] at h; cases h; exact Or.inl aw_4_141⟩)
theorem al_113 : am_lP ((7, 149), 112) := Or.inr (Or.inr ⟨by decide, fun r h => by rw [am_mt_112] at h; cases h; exact Or.inl aw_4_80⟩)
theorem al_114 : am_lP ((7, 152), 118) := Or.inr (Or.inr ⟨by decide, fun r h => by rw [am_mt_118] at h; cases h; exact Or.inl aw_4_137⟩)
theorem al_115 : am_lP ((7, 155), 93) := Or.inr (Or.inr ⟨by decide, fun r h => by rw [am_mt_93] at h; cases h; exact Or.inl aw_4_75⟩)
theorem al_116 : am_lP ((7, 160), 113) := Or.inr (Or.inr ⟨by decide, fun r h => by rw [am_mt_113] at h; cases h; exact Or.inl aw_4_116⟩)
theorem al_117 : am_lP ((7, 163), 115) := Or.inr (Or.inr ⟨by decide, fun r h => by rw [am_mt_115] at h; cases h; exact Or.inl aw_4_120⟩)
theorem al_118 : am_lP ((7, 168), 122) := Or.inr (Or.inr ⟨by decide, fun r h => by rw [am_mt_122] at h; cases h; exact Or.inl aw_4_129⟩)
theorem al_119 : am_lP ((7, 171), 119) := Or.inr (Or.inr ⟨by decide, fun r h => by rw [am_mt_119] at h; cases h; exact Or.inl aw_4_133⟩)
theorem al_120 : am_lP ((7, 174), 94) := Or.inr (Or.inr ⟨by decide, fun r h => by rw [am_mt_94] at h; cases h; exact Or.inl aw_4_149⟩)
theorem al_121 : am_lP ((7, 177), 95) := Or.inr (Or.inr ⟨by decide, fun r h => by rw [am_mt_95] at h; cases h; exact Or.inl aw_4_157⟩)
theorem al_122 : am_lP ((7, 180), 128) := Or.inr (Or.inr ⟨by decide, fun r h => by rw [am_mt_128] at h; cases h; exact Or.inl aw_4_177⟩)
theorem al_123 : am_lP ((7, 183), 129) := Or.inr (Or.inr ⟨by decide, fun r h => by rw [am_mt_129] at h; cases h; exact Or.inl aw_4_181⟩)
theorem al_124 : am_lP ((7, 188), 130) := Or.inr (Or.inr ⟨by decide, fun r h => by rw [am_mt_130] at h; cases h; exact Or.inl aw_4_173⟩)
theorem al_125 : am_lP ((7, 191), 114) := Or.inr (Or.inr ⟨by decide, fun r h => by rw [am_mt_114] at h; cases h; exact Or.inl aw_4_185⟩)
theorem al_126 : am_lP ((7, 197), 135) := Or.inr (Or.inr ⟨by decide, fun r h => by rw [am_mt_135] at h; cases h; exact Or.inl aw_4_209⟩)
theorem al_127 : am_lP ((7, 203), 136) := Or.inr (Or.inr ⟨by decide, fun r h => by rw [am_mt_136] at h; cases h; exact Or.inl aw_4_213⟩)
theorem al_128 : am_lP ((7, 206), 137) := Or.inr (Or.inr ⟨by decide, fun r h => by rw [am_mt_137] at h; cases h; exact Or.inl aw_4_205⟩)
theorem al_129 : am_lP ((7, 213), 147) := Or.inr (Or.inr ⟨by decide, fun r h => by rw [am_mt_147] at h; cases h; exact Or.inl aw_5_15⟩)
theorem al_130 : am_lP ((12, 335), 157) := Or.inr (Or.inr ⟨by decide, fun r h => by rw [am_mt_157] at h; cases h; exact Or.inl aw_1_208⟩)
theorem al_131 : am_lP ((12, 492), 159) := Or.inr (Or.inr ⟨by decide, fun r h => by rw [am_mt_159] at h; cases h; exact Or.inl aw_1_218⟩)
theorem al_132 : am_lP ((12, 495), 160) := Or.inr (Or.inr ⟨by decide, fun r h => by rw [am_mt_160] at h; cases h; exact Or.inl aw_1_222⟩)
theorem al_133 : am_lP ((12, 1059), 164) := Or.inr (Or.inr ⟨by decide, fun r h => by rw [am_mt_164] at h; cases h; exact Or.inl aw_1_230⟩)
theorem al_134 : am_lP ((13, 9), 163) := Or.inr (Or.inr ⟨by decide, fun r h => by rw [am_mt_163] at h; cases h; exact Or.inl aw_1_225⟩)
theorem al_all : ∀ q ∈ am_mT, am_lP q := List.forall_mem_cons.mpr ⟨al_0, List.forall_mem_cons.mpr ⟨al_1, List.forall_mem_cons.mpr ⟨al_2, List.forall_mem_cons.mpr ⟨al_3, List.forall_mem_cons.mpr ⟨al_4, List.forall_mem_cons.mpr ⟨al_5, List.forall_mem_cons.mpr ⟨al_6, List.forall_mem_cons.mpr ⟨al_7, List.forall_mem_cons.mpr ⟨al_8, List.forall_mem_cons.mpr ⟨al_9, List.forall_mem_cons.mpr ⟨al_10, List.forall_mem_cons.mpr ⟨al_11, List.forall_mem_cons.mpr ⟨al_12, List.forall_mem_cons.mpr ⟨al_13, List.forall_mem_cons.mpr ⟨al_14, List.forall_mem_cons.mpr ⟨al_15, List.forall_mem_cons.mpr ⟨al_16, List.forall_mem_cons.mpr ⟨al_17, List.forall_mem_cons.mpr ⟨al_18, List.forall_mem_cons.mpr ⟨al_19, List.forall_mem_cons.mpr ⟨al_20, List.forall_mem_cons.mpr ⟨al_21, List.forall_mem_cons.mpr ⟨al_22, List.forall_mem_cons.mpr ⟨al_23, List.forall_mem_cons.mpr ⟨al_24, List.forall_mem_cons.mpr ⟨al_25, List.forall_mem_cons.mpr ⟨al_26, List.forall_mem_cons.mpr ⟨al_27, List.forall_mem_cons.mpr ⟨al_28, List.forall_mem_cons.mpr ⟨al_29, List.forall_mem_cons.mpr ⟨al_30, List.forall_mem_cons.mpr ⟨al_31, List.forall_mem_cons.mpr ⟨al_32, List.forall_mem_cons.mpr ⟨al_33, List.forall_mem_cons.mpr ⟨al_34, List.forall_mem_cons.mpr ⟨al_35, List.forall_mem_cons.mpr ⟨al_36, List.forall_mem_cons.mpr ⟨al_37, List.forall_mem_cons.mpr ⟨al_38, List.forall_mem_cons.mpr ⟨al_39, List.forall_mem_cons.mpr ⟨al_40, List.forall_mem_cons.mpr ⟨al_41, List.forall_mem_cons.mpr ⟨al_42, List.forall_mem_cons.mpr ⟨al_43, List.forall_mem_cons.mpr ⟨al_44, List.forall_mem_cons.mpr ⟨al_45, List.forall_mem_cons.mpr ⟨al_46, List.forall_mem_cons.mpr ⟨al_47, List.forall_mem_cons.mpr ⟨al_48, List.forall_mem_cons.mpr ⟨al_49, List.forall_mem_cons.mpr ⟨al_50, List.forall_mem_cons.mpr ⟨al_51, List.forall_mem_cons.mpr ⟨al_52, List.forall_mem_cons.mpr ⟨al_53, List.forall_mem_cons.mpr ⟨al_54, List.forall_mem_cons.mpr ⟨al_55, List.forall_mem_cons.mpr ⟨al_56, List.forall_mem_cons.mpr ⟨al_57, List.forall_mem_cons.mpr ⟨al_58, List.forall_mem_cons.mpr ⟨al_59, List.forall_mem_cons.mpr ⟨al_60, List.forall_mem_cons.mpr ⟨al_61, List.forall_mem_cons.mpr ⟨al_62, List.forall_mem_cons.mpr ⟨al_63, List.forall_mem_cons.mpr ⟨al_64, List.forall_mem_cons.mpr ⟨al_65, List.forall_mem_cons.mpr ⟨al_66, List.forall_mem_cons.mpr ⟨al_67, List.forall_mem_cons.mpr ⟨al_68, List.forall_mem_cons.mpr ⟨al_69, List.forall_mem_cons.mpr ⟨al_70, List.forall_mem_cons.mpr ⟨al_71, List.forall_mem_cons.mpr ⟨al_72, List.forall_mem_cons.mpr ⟨al_73, List.forall_mem_cons.mpr ⟨al_74, List.forall_mem_cons.mpr ⟨al_75, List.forall_mem_cons.mpr ⟨al_76, List.forall_mem_cons.mpr ⟨al_77, List.forall_mem_cons.mpr ⟨al_78, List.forall_mem_cons.mpr ⟨al_79, List.forall_mem_cons.mpr ⟨al_80, List.forall_mem_cons.mpr ⟨al_81, List.forall_mem_cons.mpr ⟨al_82, List.forall_mem_cons.mpr ⟨al_83, List.forall_mem_cons.mpr ⟨al_84, List.forall_mem_cons.mpr ⟨al_85, List.forall_mem_cons.mpr ⟨al_86, List.forall_mem_cons.mpr ⟨al_87, List.forall_mem_cons.mpr ⟨al_88, List.forall_mem_cons.mpr ⟨al_89, List.forall_mem_cons.mpr ⟨al_90, List.forall_mem_cons.mpr ⟨al_91, List.forall_mem_cons.mpr ⟨al_92, List.forall_mem_cons.mpr ⟨al_93, List.forall_mem_cons.mpr ⟨al_94, List.forall_mem_cons.mpr ⟨al_95, List.forall_mem_cons.mpr ⟨al_96, List.forall_mem_cons.mpr ⟨al_97, List.forall_mem_cons.mpr ⟨al_98, List.forall_mem_cons.mpr ⟨al_99, List.forall_mem_cons.mpr ⟨al_100, List.forall_mem_cons.mpr ⟨al_101, List.forall_mem_cons.mpr ⟨al_102, List.forall_mem_cons.mpr ⟨al_103, List.forall_mem_cons.mpr ⟨al_104, List.forall_mem_cons.mpr ⟨al_105, List.forall_mem_cons.mpr ⟨al_106, List.forall_mem_cons.mpr ⟨al_107, List.forall_mem_cons.mpr ⟨al_108, List.forall_mem_cons.mpr ⟨al_109, List.forall_mem_cons.mpr ⟨al_110, List.forall_mem_cons.mpr ⟨al_111, List.forall_mem_cons.mpr ⟨al_112, List.forall_mem_cons.mpr ⟨al_113, List.forall_mem_cons.mpr ⟨al_114, List.forall_mem_cons.mpr ⟨al_115, List.forall_mem_cons.mpr ⟨al_116, List.forall_mem_cons.mpr ⟨al_117, List.forall_mem_cons.mpr ⟨al_118, List.forall_mem_cons.mpr ⟨al_119, List.forall_mem_cons.mpr ⟨al_120, List.forall_mem_cons.mpr ⟨al_121, List.forall_mem_cons.mpr ⟨al_122, List.forall_mem_cons.mpr ⟨al_123, List.forall_mem_cons.mpr ⟨al_124, List.forall_mem_cons.mpr ⟨al_125, List.forall_mem_cons.mpr ⟨al_126, List.forall_mem_cons.mpr ⟨al_127, List.forall_mem_cons.mpr ⟨al_128, List.forall_mem_cons.mpr ⟨al_129, List.forall_mem_cons.mpr ⟨al_130, List.forall_mem_cons.mpr ⟨al_131, List.forall_mem_cons.mpr ⟨al_132, List.forall_mem_cons.mpr ⟨al_133, List.forall_mem_cons.mpr ⟨al_134, fun _ h => absurd h List.not_mem_nil⟩⟩⟩⟩⟩⟩⟩⟩⟩⟩⟩⟩⟩⟩⟩⟩⟩⟩⟩⟩⟩⟩⟩⟩⟩⟩⟩⟩⟩⟩⟩⟩⟩⟩⟩⟩⟩⟩⟩⟩⟩⟩⟩⟩⟩⟩⟩⟩⟩⟩⟩⟩⟩⟩⟩⟩⟩⟩⟩⟩⟩⟩⟩⟩⟩⟩⟩⟩⟩⟩⟩⟩⟩⟩⟩⟩⟩⟩⟩⟩⟩⟩⟩⟩⟩⟩⟩⟩⟩⟩⟩⟩⟩⟩⟩⟩⟩⟩⟩⟩⟩⟩⟩⟩⟩⟩⟩⟩⟩⟩⟩⟩⟩⟩⟩⟩⟩⟩⟩⟩⟩⟩⟩⟩⟩⟩⟩⟩⟩⟩⟩⟩⟩⟩⟩
def am_kP (q : (Nat × Nat) × Value) : Prop := match q.2 with | .int v => (q.1.1 = 12 ∧ v = 1 ∧ Cond.fieldLink (am_on q.1.1) q.1.2 "java/lang/String" "COMPACT_STRINGS" "Z" ∈ am_bw) ∨ (q.1.1 ≠ 12 ∧ Cond.constant (am_on q.1.1) q.1.2 v ∈ am_bw) | .long v => Cond.constantLong (am_on q.1.1) q.1.2 v ∈ am_bw | .float b => b = 0 ∧ q.1 = (6, 71) | .retAddr _ => q.1.1 = 12 ∧ Cond.fieldLink (am_on q.1.1) q.1.2 "jdk/internal/util/Preconditions" "SIOOBE_FORMATTER" "Ljava/util/function/BiFunction;" ∈ am_bw | _ => False
theorem ak_0 : am_kP ((6, 71), .float 0) := ⟨rfl, rfl⟩
theorem ak_1 : am_kP ((6, 277), .long (7919)) := aw_3_159
theorem ak_2 : am_kP ((6, 279), .long (6151)) := aw_3_160
theorem ak_3 : am_kP ((6, 281), .long (65521)) := aw_3_161
theorem ak_4 : am_kP ((6, 283), .long (2)) := aw_3_162
theorem ak_5 : am_kP ((7, 61), .long (4)) := aw_4_79
theorem ak_6 : am_kP ((7, 63), .long (32)) := aw_4_27
theorem ak_7 : am_kP ((7, 65), .long (126)) := aw_4_28
theorem ak_8 : am_kP ((7, 74), .long (48)) := aw_4_52
theorem ak_9 : am_kP ((7, 76), .long (57)) := aw_4_53
theorem ak_10 : am_kP ((7, 158), .long (2)) := aw_4_115
theorem ak_11 : am_kP ((7, 166), .long (30)) := aw_4_128
theorem ak_12 : am_kP ((7, 186), .long (-1)) := aw_4_172
theorem ak_13 : am_kP ((7, 209), .long (60)) := aw_4_233
theorem ak_14 : am_kP ((7, 211), .long (10)) := aw_5_14
theorem ak_15 : am_kP ((7, 216), .long (9999)) := aw_5_23
theorem ak_16 : am_kP ((7, 218), .long (40)) := aw_5_24
theorem ak_17 : am_kP ((7, 220), .long (7919)) := aw_5_25
theorem ak_18 : am_kP ((7, 222), .long (6151)) := aw_5_26
theorem ak_19 : am_kP ((7, 224), .long (65521)) := aw_5_27
theorem ak_20 : am_kP ((10, 265), .int (1431655765)) := Or.inr ⟨by decide, aw_2_184⟩
theorem ak_21 : am_kP ((10, 266), .int (858993459)) := Or.inr ⟨by decide, aw_2_185⟩
theorem ak_22 : am_kP ((10, 267), .int (252645135)) := Or.inr ⟨by decide, aw_2_186⟩
theorem ak_23 : am_kP ((12, 38), .int 1) := Or.inl ⟨rfl, rfl, aw_1_212⟩
theorem ak_24 : am_kP ((12, 1053), .retAddr 0) := ⟨rfl, aw_1_228⟩
theorem ak_all : ∀ q ∈ am_kT, am_kP q := List.forall_mem_cons.mpr ⟨ak_0, List.forall_mem_cons.mpr ⟨ak_1, List.forall_mem_cons.mpr ⟨ak_2, List.forall_mem_cons.mpr ⟨ak_3, List.forall_mem_cons.mpr ⟨ak_4, List.forall_mem_cons.mpr ⟨ak_5, List.forall_mem_cons.mpr ⟨ak_6, List.forall_mem_cons.mpr ⟨ak_7, List.forall_mem_cons.mpr ⟨ak_8, List.forall_mem_cons.mpr ⟨ak_9, List.forall_mem_cons.mpr ⟨ak_10, List.forall_mem_cons.mpr ⟨ak_11, List.forall_mem_cons.mpr ⟨ak_12, List.forall_mem_cons.mpr ⟨ak_13, List.forall_mem_cons.mpr ⟨ak_14, List.forall_mem_cons.mpr ⟨ak_15, List.forall_mem_cons.mpr ⟨ak_16, List.forall_mem_cons.mpr ⟨ak_17, List.forall_mem_cons.mpr ⟨ak_18, List.forall_mem_cons.mpr ⟨ak_19, List.forall_mem_cons.mpr ⟨ak_20, List.forall_mem_cons.mpr ⟨ak_21, List.forall_mem_cons.mpr ⟨ak_22, List.forall_mem_cons.mpr ⟨ak_23, List.forall_mem_cons.mpr ⟨ak_24, fun _ h => absurd h List.not_mem_nil⟩⟩⟩⟩⟩⟩⟩⟩⟩⟩⟩⟩⟩⟩⟩⟩⟩⟩⟩⟩⟩⟩⟩⟩⟩
