/-- the words of the tables that hold at every call -/
def am_bw : List Cond := lw_tbl.filter goodWord
theorem am_gd : GoodIn lw_tbl am_bw := fun w h => ⟨(List.mem_filter.mp h).1, good_of_word (List.mem_filter.mp h).2⟩
theorem am_in {w : Cond} (h : w ∈ tables_1) (g : goodWord w = true) : w ∈ am_bw := List.mem_filter.mpr ⟨List.mem_append_right _ h, g⟩
theorem am_r1 : ∀ w ∈ tables_1_1, w ∈ tables_1 := fun w h => List.mem_append_left _ h
theorem am_r2 : ∀ w ∈ tables_1_2, w ∈ tables_1 := fun w h => List.mem_append_right _ (List.mem_append_left _ h)
theorem am_r3 : ∀ w ∈ tables_1_3, w ∈ tables_1 := fun w h => List.mem_append_right _ (List.mem_append_right _ (List.mem_append_left _ h))
theorem am_r4 : ∀ w ∈ tables_1_4, w ∈ tables_1 := fun w h => List.mem_append_right _ (List.mem_append_right _ (List.mem_append_right _ (List.mem_append_left _ h)))
theorem am_r5 : ∀ w ∈ tables_1_5, w ∈ tables_1 := fun w h => List.mem_append_right _ (List.mem_append_right _ (List.mem_append_right _ (List.mem_append_right _ (h))))
theorem aw_0_0 : Cond.selects RX6 yX6_layText yX6_layText ∈ am_bw := List.mem_filter.mpr ⟨List.mem_append_left _ (List.mem_of_getElem? (i := 0) rfl), rfl⟩
theorem aw_0_1 : Cond.selects RX5 yX5_readItem yX5_readItem ∈ am_bw := List.mem_filter.mpr ⟨List.mem_append_left _ (List.mem_of_getElem? (i := 1) rfl), rfl⟩
theorem aw_0_10 : Cond.selects RX6 yX6_lookAhead yX6_lookAhead ∈ am_bw := List.mem_filter.mpr ⟨List.mem_append_left _ (List.mem_of_getElem? (i := 10) rfl), rfl⟩
theorem aw_0_11 : Cond.selects RX1 yX1_weigh yX1_weigh ∈ am_bw := List.mem_filter.mpr ⟨List.mem_append_left _ (List.mem_of_getElem? (i := 11) rfl), rfl⟩
theorem aw_0_12 : Cond.selects RX1 yX1_lightAdded yX1_lightAdded ∈ am_bw := List.mem_filter.mpr ⟨List.mem_append_left _ (List.mem_of_getElem? (i := 12) rfl), rfl⟩
theorem aw_0_13 : Cond.selects RX6 yX6_lightIfMoved yX6_lightIfMoved ∈ am_bw := List.mem_filter.mpr ⟨List.mem_append_left _ (List.mem_of_getElem? (i := 13) rfl), rfl⟩
theorem aw_0_14 : Cond.selects RX4 yX4_weigh yX4_weigh ∈ am_bw := List.mem_filter.mpr ⟨List.mem_append_left _ (List.mem_of_getElem? (i := 14) rfl), rfl⟩
theorem aw_0_15 : Cond.selects RX6 yX6_agreesWithSeen yX6_agreesWithSeen ∈ am_bw := List.mem_filter.mpr ⟨List.mem_append_left _ (List.mem_of_getElem? (i := 15) rfl), rfl⟩
theorem aw_0_16 : Cond.selects RX6 yX6_marryMostUnlike yX6_marryMostUnlike ∈ am_bw := List.mem_filter.mpr ⟨List.mem_append_left _ (List.mem_of_getElem? (i := 16) rfl), rfl⟩
theorem aw_0_17 : Cond.selects RX6 yX6_smokingChances yX6_smokingChances ∈ am_bw := List.mem_filter.mpr ⟨List.mem_append_left _ (List.mem_of_getElem? (i := 17) rfl), rfl⟩
theorem aw_0_18 : Cond.selects RX6 yX6_alterByDraw yX6_alterByDraw ∈ am_bw := List.mem_filter.mpr ⟨List.mem_append_left _ (List.mem_of_getElem? (i := 18) rfl), rfl⟩
theorem aw_0_19 : Cond.selects RX7 yX7_lives yX7_lives ∈ am_bw := List.mem_filter.mpr ⟨List.mem_append_left _ (List.mem_of_getElem? (i := 19) rfl), rfl⟩
theorem aw_0_2 : Cond.selects RX5 yX5_letterHere yX5_letterHere ∈ am_bw := List.mem_filter.mpr ⟨List.mem_append_left _ (List.mem_of_getElem? (i := 2) rfl), rfl⟩
theorem aw_0_20 : Cond.selects RX7 yX7_works yX7_works ∈ am_bw := List.mem_filter.mpr ⟨List.mem_append_left _ (List.mem_of_getElem? (i := 20) rfl), rfl⟩
theorem aw_0_21 : Cond.selects RX7 yX7_item yX7_item ∈ am_bw := List.mem_filter.mpr ⟨List.mem_append_left _ (List.mem_of_getElem? (i := 21) rfl), rfl⟩
theorem aw_0_22 : Cond.selects RX7 yX7_number yX7_number ∈ am_bw := List.mem_filter.mpr ⟨List.mem_append_left _ (List.mem_of_getElem? (i := 22) rfl), rfl⟩
theorem aw_0_23 : Cond.selects RX7 yX7_isFigure yX7_isFigure ∈ am_bw := List.mem_filter.mpr ⟨List.mem_append_left _ (List.mem_of_getElem? (i := 23) rfl), rfl⟩
theorem aw_0_24 : Cond.selects RX7 yX7_readPerson yX7_readPerson ∈ am_bw := List.mem_filter.mpr ⟨List.mem_append_left _ (List.mem_of_getElem? (i := 24) rfl), rfl⟩
theorem aw_0_25 : Cond.selects RX7 yX7_readWork yX7_readWork ∈ am_bw := List.mem_filter.mpr ⟨List.mem_append_left _ (List.mem_of_getElem? (i := 25) rfl), rfl⟩
theorem aw_0_26 : Cond.selects RX7 yX7_readTalk yX7_readTalk ∈ am_bw := List.mem_filter.mpr ⟨List.mem_append_left _ (List.mem_of_getElem? (i := 26) rfl), rfl⟩
theorem aw_0_27 : Cond.selects RX7 yX7_isPerson yX7_isPerson ∈ am_bw := List.mem_filter.mpr ⟨List.mem_append_left _ (List.mem_of_getElem? (i := 27) rfl), rfl⟩
theorem aw_0_28 : Cond.selects RX7 yX7_talkedOf yX7_talkedOf ∈ am_bw := List.mem_filter.mpr ⟨List.mem_append_left _ (List.mem_of_getElem? (i := 28) rfl), rfl⟩
theorem aw_0_29 : Cond.selects RX7 yX7_meets yX7_meets ∈ am_bw := List.mem_filter.mpr ⟨List.mem_append_left _ (List.mem_of_getElem? (i := 29) rfl), rfl⟩
theorem aw_0_3 : Cond.selects RX5 yX5_readNumbers yX5_readNumbers ∈ am_bw := List.mem_filter.mpr ⟨List.mem_append_left _ (List.mem_of_getElem? (i := 3) rfl), rfl⟩
theorem aw_0_30 : Cond.selects RX7 yX7_odds yX7_odds ∈ am_bw := List.mem_filter.mpr ⟨List.mem_append_left _ (List.mem_of_getElem? (i := 30) rfl), rfl⟩
theorem aw_0_31 : Cond.selects RX7 yX7_house yX7_house ∈ am_bw := List.mem_filter.mpr ⟨List.mem_append_left _ (List.mem_of_getElem? (i := 31) rfl), rfl⟩
theorem aw_0_32 : Cond.selects RX7 yX7_speaks yX7_speaks ∈ am_bw := List.mem_filter.mpr ⟨List.mem_append_left _ (List.mem_of_getElem? (i := 32) rfl), rfl⟩
theorem aw_0_33 : Cond.selects RX7 yX7_temper yX7_temper ∈ am_bw := List.mem_filter.mpr ⟨List.mem_append_left _ (List.mem_of_getElem? (i := 33) rfl), rfl⟩
theorem aw_0_34 : Cond.selects RX7 yX7_opinions yX7_opinions ∈ am_bw := List.mem_filter.mpr ⟨List.mem_append_left _ (List.mem_of_getElem? (i := 34) rfl), rfl⟩
theorem aw_0_35 : Cond.selects RX7 yX7_burns yX7_burns ∈ am_bw := List.mem_filter.mpr ⟨List.mem_append_left _ (List.mem_of_getElem? (i := 35) rfl), rfl⟩
theorem aw_0_36 : Cond.selects RX7 yX7_allLit yX7_allLit ∈ am_bw := List.mem_filter.mpr ⟨List.mem_append_left _ (List.mem_of_getElem? (i := 36) rfl), rfl⟩
theorem aw_0_37 : Cond.selects RX7 yX7_notes yX7_notes ∈ am_bw := List.mem_filter.mpr ⟨List.mem_append_left _ (List.mem_of_getElem? (i := 37) rfl), rfl⟩
theorem aw_0_38 : Cond.selects RX7 yX7_goesOn yX7_goesOn ∈ am_bw := List.mem_filter.mpr ⟨List.mem_append_left _ (List.mem_of_getElem? (i := 38) rfl), rfl⟩
theorem aw_0_39 : Cond.selects RX7 yX7_goesBy yX7_goesBy ∈ am_bw := List.mem_filter.mpr ⟨List.mem_append_left _ (List.mem_of_getElem? (i := 39) rfl), rfl⟩
theorem aw_0_4 : Cond.selects RX5 yX5_readNumber yX5_readNumber ∈ am_bw := List.mem_filter.mpr ⟨List.mem_append_left _ (List.mem_of_getElem? (i := 4) rfl), rfl⟩
theorem aw_0_40 : Cond.selects RX7 yX7_angers yX7_angers ∈ am_bw := List.mem_filter.mpr ⟨List.mem_append_left _ (List.mem_of_getElem? (i := 40) rfl), rfl⟩
theorem aw_0_41 : Cond.selects RX7 yX7_isHouse yX7_isHouse ∈ am_bw := List.mem_filter.mpr ⟨List.mem_append_left _ (List.mem_of_getElem? (i := 41) rfl), rfl⟩
theorem aw_0_42 : Cond.selects RX7 yX7_burnsIn yX7_burnsIn ∈ am_bw := List.mem_filter.mpr ⟨List.mem_append_left _ (List.mem_of_getElem? (i := 42) rfl), rfl⟩
theorem aw_0_43 : Cond.selects RX7 yX7_asides yX7_asides ∈ am_bw := List.mem_filter.mpr ⟨List.mem_append_left _ (List.mem_of_getElem? (i := 43) rfl), rfl⟩
theorem aw_0_44 : Cond.selects RX7 yX7_backs yX7_backs ∈ am_bw := List.mem_filter.mpr ⟨List.mem_append_left _ (List.mem_of_getElem? (i := 44) rfl), rfl⟩
theorem aw_0_45 : Cond.selects RX7 yX7_allLight yX7_allLight ∈ am_bw := List.mem_filter.mpr ⟨List.mem_append_left _ (List.mem_of_getElem? (i := 45) rfl), rfl⟩
theorem aw_0_46 : Cond.selects RX7 yX7_seeksHomes yX7_seeksHomes ∈ am_bw := List.mem_filter.mpr ⟨List.mem_append_left _ (List.mem_of_getElem? (i := 46) rfl), rfl⟩
theorem aw_0_47 : Cond.selects RX7 yX7_movers yX7_movers ∈ am_bw := List.mem_filter.mpr ⟨List.mem_append_left _ (List.mem_of_getElem? (i := 47) rfl), rfl⟩
theorem aw_0_48 : Cond.selects RX7 yX7_isNext yX7_isNext ∈ am_bw := List.mem_filter.mpr ⟨List.mem_append_left _ (List.mem_of_getElem? (i := 48) rfl), rfl⟩
theorem aw_0_49 : Cond.selects RX7 yX7_isSmoke yX7_isSmoke ∈ am_bw := List.mem_filter.mpr ⟨List.mem_append_left _ (List.mem_of_getElem? (i := 49) rfl), rfl⟩
theorem aw_0_5 : Cond.selects RX6 yX6_isPerson yX6_isPerson ∈ am_bw := List.mem_filter.mpr ⟨List.mem_append_left _ (List.mem_of_getElem? (i := 5) rfl), rfl⟩
theorem aw_0_6 : Cond.selects RX2 yX2_isFalsePair yX2_isFalsePair ∈ am_bw := List.mem_filter.mpr ⟨List.mem_append_left _ (List.mem_of_getElem? (i := 6) rfl), rfl⟩
theorem aw_0_7 : Cond.selects RX2 yX2_changeTempers yX2_changeTempers ∈ am_bw := List.mem_filter.mpr ⟨List.mem_append_left _ (List.mem_of_getElem? (i := 7) rfl), rfl⟩
theorem aw_0_8 : Cond.selects RX2 yX2_changeOpinions yX2_changeOpinions ∈ am_bw := List.mem_filter.mpr ⟨List.mem_append_left _ (List.mem_of_getElem? (i := 8) rfl), rfl⟩
theorem aw_0_9 : Cond.selects RX6 yX6_isHouse yX6_isHouse ∈ am_bw := List.mem_filter.mpr ⟨List.mem_append_left _ (List.mem_of_getElem? (i := 9) rfl), rfl⟩
theorem aw_1_1 : Cond.initialized RX6 ∈ am_bw := am_in (am_r1 _ (List.mem_of_getElem? (i := 1) rfl)) rfl
theorem aw_1_10 : Cond.initialized RJ3 ∈ am_bw := am_in (am_r1 _ (List.mem_of_getElem? (i := 10) rfl)) rfl
theorem aw_1_102 : Cond.fieldLink RX0 25 "LampsOfDissent$City" "subjects" "[I" ∈ am_bw := am_in (am_r1 _ (List.mem_of_getElem? (i := 102) rfl)) rfl
theorem aw_1_103 : Cond.fieldLink RX0 31 "LampsOfDissent$City" "houses" "I" ∈ am_bw := am_in (am_r1 _ (List.mem_of_getElem? (i := 103) rfl)) rfl
theorem aw_1_106 : Cond.fieldLink RX0 35 "LampsOfDissent$City" "people" "I" ∈ am_bw := am_in (am_r1 _ (List.mem_of_getElem? (i := 106) rfl)) rfl
theorem aw_1_109 : Cond.fieldLink RX0 38 "LampsOfDissent$City" "works" "I" ∈ am_bw := am_in (am_r1 _ (List.mem_of_getElem? (i := 109) rfl)) rfl
theorem aw_1_112 : Cond.fieldLink RX0 41 "LampsOfDissent$City" "told" "I" ∈ am_bw := am_in (am_r1 _ (List.mem_of_getElem? (i := 112) rfl)) rfl
theorem aw_1_113 : Cond.laysFinal RX0 "LampsOfDissent$City" "start" "LLampsOfDissent$Moment;" ∈ am_bw := am_in (am_r1 _ (List.mem_of_getElem? (i := 113) rfl)) rfl
theorem aw_1_115 : Cond.laysFinal RX0 "LampsOfDissent$City" "workHouse" "[I" ∈ am_bw := am_in (am_r1 _ (List.mem_of_getElem? (i := 115) rfl)) rfl
theorem aw_1_117 : Cond.laysFinal RX0 "LampsOfDissent$City" "workNeed" "[I" ∈ am_bw := am_in (am_r1 _ (List.mem_of_getElem? (i := 117) rfl)) rfl
theorem aw_1_119 : Cond.laysFinal RX0 "LampsOfDissent$City" "subjects" "[I" ∈ am_bw := am_in (am_r1 _ (List.mem_of_getElem? (i := 119) rfl)) rfl
theorem aw_1_12 : Cond.initialized RJ7 ∈ am_bw := am_in (am_r1 _ (List.mem_of_getElem? (i := 12) rfl)) rfl
theorem aw_1_121 : Cond.lays RX0 "LampsOfDissent$City" "houses" "I" ∈ am_bw := am_in (am_r1 _ (List.mem_of_getElem? (i := 121) rfl)) rfl
theorem aw_1_123 : Cond.lays RX0 "LampsOfDissent$City" "people" "I" ∈ am_bw := am_in (am_r1 _ (List.mem_of_getElem? (i := 123) rfl)) rfl
theorem aw_1_125 : Cond.lays RX0 "LampsOfDissent$City" "works" "I" ∈ am_bw := am_in (am_r1 _ (List.mem_of_getElem? (i := 125) rfl)) rfl
theorem aw_1_127 : Cond.lays RX0 "LampsOfDissent$City" "told" "I" ∈ am_bw := am_in (am_r1 _ (List.mem_of_getElem? (i := 127) rfl)) rfl
theorem aw_1_13 : Cond.initialized "java/lang/System" ∈ am_bw := am_in (am_r1 _ (List.mem_of_getElem? (i := 13) rfl)) rfl
theorem aw_1_130 : Cond.classLink RX6 26 RX2 ∈ am_bw := am_in (am_r1 _ (List.mem_of_getElem? (i := 130) rfl)) rfl
theorem aw_1_132 : Cond.classLink RX6 36 RX3 ∈ am_bw := am_in (am_r1 _ (List.mem_of_getElem? (i := 132) rfl)) rfl
theorem aw_1_133 : Cond.instantiable RX3 3 ∈ am_bw := am_in (am_r1 _ (List.mem_of_getElem? (i := 133) rfl)) rfl
theorem aw_1_134 : Cond.methodLink RX6 38 yX3_init ∈ am_bw := am_in (am_r1 _ (List.mem_of_getElem? (i := 134) rfl)) rfl
theorem aw_1_135 : Cond.instanceMethod yX3_init ∈ am_bw := am_in (am_r1 _ (List.mem_of_getElem? (i := 135) rfl)) rfl
theorem aw_1_136 : Cond.code yX3_init cX3_init 2 none ∈ am_bw := am_in (am_r1 _ (List.mem_of_getElem? (i := 136) rfl)) rfl
theorem aw_1_137 : Cond.methodLink RX3 3 objectInit ∈ am_bw := am_in (am_r1 _ (List.mem_of_getElem? (i := 137) rfl)) rfl
theorem aw_1_138 : Cond.classLink RX3 9 RX2 ∈ am_bw := am_in (am_r1 _ (List.mem_of_getElem? (i := 138) rfl)) rfl
theorem aw_1_14 : Cond.initialized RX7 ∈ am_bw := am_in (am_r1 _ (List.mem_of_getElem? (i := 14) rfl)) rfl
theorem aw_1_141 : Cond.fieldLink RX3 11 "LampsOfDissent$Past" "ring" "[LLampsOfDissent$Moment;" ∈ am_bw := am_in (am_r1 _ (List.mem_of_getElem? (i := 141) rfl)) rfl
theorem aw_1_142 : Cond.fieldLink RX3 18 "LampsOfDissent$Past" "next" "I" ∈ am_bw := am_in (am_r1 _ (List.mem_of_getElem? (i := 142) rfl)) rfl
theorem aw_1_143 : Cond.fieldLink RX3 26 "LampsOfDissent$Past" "held" "I" ∈ am_bw := am_in (am_r1 _ (List.mem_of_getElem? (i := 143) rfl)) rfl
theorem aw_1_145 : Cond.laysFinal RX3 "LampsOfDissent$Past" "ring" "[LLampsOfDissent$Moment;" ∈ am_bw := am_in (am_r1 _ (List.mem_of_getElem? (i := 145) rfl)) rfl
theorem aw_1_147 : Cond.lays RX3 "LampsOfDissent$Past" "next" "I" ∈ am_bw := am_in (am_r1 _ (List.mem_of_getElem? (i := 147) rfl)) rfl
theorem aw_1_149 : Cond.lays RX3 "LampsOfDissent$Past" "held" "I" ∈ am_bw := am_in (am_r1 _ (List.mem_of_getElem? (i := 149) rfl)) rfl
theorem aw_1_15 : Cond.initialized RJ9 ∈ am_bw := am_in (am_r1 _ (List.mem_of_getElem? (i := 15) rfl)) rfl
theorem aw_1_152 : Cond.classLink RX6 54 RX1 ∈ am_bw := am_in (am_r1 _ (List.mem_of_getElem? (i := 152) rfl)) rfl
theorem aw_1_153 : Cond.instantiable RX1 6 ∈ am_bw := am_in (am_r1 _ (List.mem_of_getElem? (i := 153) rfl)) rfl
theorem aw_1_155 : Cond.instanceMethod yX1_init ∈ am_bw := am_in (am_r1 _ (List.mem_of_getElem? (i := 155) rfl)) rfl
theorem aw_1_156 : Cond.code yX1_init cX1_init 1 none ∈ am_bw := am_in (am_r1 _ (List.mem_of_getElem? (i := 156) rfl)) rfl
theorem aw_1_157 : Cond.methodLink RX1 3 objectInit ∈ am_bw := am_in (am_r1 _ (List.mem_of_getElem? (i := 157) rfl)) rfl
theorem aw_1_158 : Cond.fieldLink RX1 9 "LampsOfDissent$HomeSearch" "lightOfTwo" "[I" ∈ am_bw := am_in (am_r1 _ (List.mem_of_getElem? (i := 158) rfl)) rfl
theorem aw_1_159 : Cond.fieldLink RX1 15 "LampsOfDissent$HomeSearch" "chosen" "[I" ∈ am_bw := am_in (am_r1 _ (List.mem_of_getElem? (i := 159) rfl)) rfl
theorem aw_1_16 : Cond.initialized RJ6 ∈ am_bw := am_in (am_r1 _ (List.mem_of_getElem? (i := 16) rfl)) rfl
theorem aw_1_160 : Cond.fieldLink RX1 18 "LampsOfDissent$HomeSearch" "lights" "[I" ∈ am_bw := am_in (am_r1 _ (List.mem_of_getElem? (i := 160) rfl)) rfl
theorem aw_1_161 : Cond.fieldLink RX1 21 "LampsOfDissent$HomeSearch" "best" "[I" ∈ am_bw := am_in (am_r1 _ (List.mem_of_getElem? (i := 161) rfl)) rfl
theorem aw_1_163 : Cond.fieldLink RX1 41 "LampsOfDissent$HomeSearch" "bestLit" "I" ∈ am_bw := am_in (am_r1 _ (List.mem_of_getElem? (i := 163) rfl)) rfl
theorem aw_1_165 : Cond.fieldLink RX1 45 "LampsOfDissent$HomeSearch" "bestMoved" "I" ∈ am_bw := am_in (am_r1 _ (List.mem_of_getElem? (i := 165) rfl)) rfl
theorem aw_1_167 : Cond.laysFinal RX1 "LampsOfDissent$HomeSearch" "lightOfTwo" "[I" ∈ am_bw := am_in (am_r1 _ (List.mem_of_getElem? (i := 167) rfl)) rfl
theorem aw_1_169 : Cond.laysFinal RX1 "LampsOfDissent$HomeSearch" "chosen" "[I" ∈ am_bw := am_in (am_r1 _ (List.mem_of_getElem? (i := 169) rfl)) rfl
theorem aw_1_171 : Cond.laysFinal RX1 "LampsOfDissent$HomeSearch" "lights" "[I" ∈ am_bw := am_in (am_r1 _ (List.mem_of_getElem? (i := 171) rfl)) rfl
theorem aw_1_173 : Cond.laysFinal RX1 "LampsOfDissent$HomeSearch" "best" "[I" ∈ am_bw := am_in (am_r1 _ (List.mem_of_getElem? (i := 173) rfl)) rfl
theorem aw_1_175 : Cond.lays RX1 "LampsOfDissent$HomeSearch" "bestLit" "I" ∈ am_bw := am_in (am_r1 _ (List.mem_of_getElem? (i := 175) rfl)) rfl
theorem aw_1_177 : Cond.lays RX1 "LampsOfDissent$HomeSearch" "bestMoved" "I" ∈ am_bw := am_in (am_r1 _ (List.mem_of_getElem? (i := 177) rfl)) rfl
theorem aw_1_18 : Cond.instantiable RX6 14 ∈ am_bw := am_in (am_r1 _ (List.mem_of_getElem? (i := 18) rfl)) rfl
theorem aw_1_180 : Cond.classLink RX6 61 RX4 ∈ am_bw := am_in (am_r1 _ (List.mem_of_getElem? (i := 180) rfl)) rfl
theorem aw_1_181 : Cond.instantiable RX4 4 ∈ am_bw := am_in (am_r1 _ (List.mem_of_getElem? (i := 181) rfl)) rfl
theorem aw_1_182 : Cond.methodLink RX6 63 yX4_init ∈ am_bw := am_in (am_r1 _ (List.mem_of_getElem? (i := 182) rfl)) rfl
theorem aw_1_183 : Cond.instanceMethod yX4_init ∈ am_bw := am_in (am_r1 _ (List.mem_of_getElem? (i := 183) rfl)) rfl
theorem aw_1_184 : Cond.code yX4_init cX4_init 2 none ∈ am_bw := am_in (am_r1 _ (List.mem_of_getElem? (i := 184) rfl)) rfl
theorem aw_1_185 : Cond.methodLink RX4 3 objectInit ∈ am_bw := am_in (am_r1 _ (List.mem_of_getElem? (i := 185) rfl)) rfl
theorem aw_1_186 : Cond.classLink RX4 9 RX2 ∈ am_bw := am_in (am_r1 _ (List.mem_of_getElem? (i := 186) rfl)) rfl
theorem aw_1_188 : Cond.fieldLink RX4 11 "LampsOfDissent$TalkSearch" "steps" "[LLampsOfDissent$Moment;" ∈ am_bw := am_in (am_r1 _ (List.mem_of_getElem? (i := 188) rfl)) rfl
theorem aw_1_189 : Cond.fieldLink RX4 17 "LampsOfDissent$TalkSearch" "row" "[I" ∈ am_bw := am_in (am_r1 _ (List.mem_of_getElem? (i := 189) rfl)) rfl
theorem aw_1_190 : Cond.fieldLink RX4 21 "LampsOfDissent$TalkSearch" "best" "[I" ∈ am_bw := am_in (am_r1 _ (List.mem_of_getElem? (i := 190) rfl)) rfl
theorem aw_1_192 : Cond.fieldLink RX4 29 "LampsOfDissent$TalkSearch" "most" "I" ∈ am_bw := am_in (am_r1 _ (List.mem_of_getElem? (i := 192) rfl)) rfl
theorem aw_1_194 : Cond.laysFinal RX4 "LampsOfDissent$TalkSearch" "steps" "[LLampsOfDissent$Moment;" ∈ am_bw := am_in (am_r1 _ (List.mem_of_getElem? (i := 194) rfl)) rfl
theorem aw_1_196 : Cond.laysFinal RX4 "LampsOfDissent$TalkSearch" "row" "[I" ∈ am_bw := am_in (am_r1 _ (List.mem_of_getElem? (i := 196) rfl)) rfl
theorem aw_1_198 : Cond.laysFinal RX4 "LampsOfDissent$TalkSearch" "best" "[I" ∈ am_bw := am_in (am_r1 _ (List.mem_of_getElem? (i := 198) rfl)) rfl
theorem aw_1_2 : Cond.initialized RX5 ∈ am_bw := am_in (am_r1 _ (List.mem_of_getElem? (i := 2) rfl)) rfl
theorem aw_1_20 : Cond.instanceMethod yX6_init ∈ am_bw := am_in (am_r1 _ (List.mem_of_getElem? (i := 20) rfl)) rfl
theorem aw_1_200 : Cond.lays RX4 "LampsOfDissent$TalkSearch" "most" "I" ∈ am_bw := am_in (am_r1 _ (List.mem_of_getElem? (i := 200) rfl)) rfl
theorem aw_1_204 : Cond.methodLink RX6 73 yJ0_length_8abf5 ∈ am_bw := am_in (am_r1 _ (List.mem_of_getElem? (i := 204) rfl)) rfl
theorem aw_1_205 : Cond.instanceMethod yJ0_length_8abf5 ∈ am_bw := am_in (am_r1 _ (List.mem_of_getElem? (i := 205) rfl)) rfl
theorem aw_1_206 : Cond.selects RJ0 yJ0_length_8abf5 yJ0_length_8abf5 ∈ am_bw := am_in (am_r1 _ (List.mem_of_getElem? (i := 206) rfl)) rfl
theorem aw_1_207 : Cond.code yJ0_length_8abf5 cJ0_length_8abf5 1 (some .int) ∈ am_bw := am_in (am_r1 _ (List.mem_of_getElem? (i := 207) rfl)) rfl
theorem aw_1_208 : Cond.methodLink RJ0 335 yJ0_coder_7d493 ∈ am_bw := am_in (am_r1 _ (List.mem_of_getElem? (i := 208) rfl)) rfl
theorem aw_1_209 : Cond.instanceMethod yJ0_coder_7d493 ∈ am_bw := am_in (am_r1 _ (List.mem_of_getElem? (i := 209) rfl)) rfl
theorem aw_1_21 : Cond.code yX6_init cX6_init 2 none ∈ am_bw := am_in (am_r1 _ (List.mem_of_getElem? (i := 21) rfl)) rfl
theorem aw_1_210 : Cond.selects RJ0 yJ0_coder_7d493 yJ0_coder_7d493 ∈ am_bw := am_in (am_r1 _ (List.mem_of_getElem? (i := 210) rfl)) rfl
theorem aw_1_211 : Cond.code yJ0_coder_7d493 cJ0_coder_7d493 1 (some .byte) ∈ am_bw := am_in (am_r1 _ (List.mem_of_getElem? (i := 211) rfl)) rfl
theorem aw_1_212 : Cond.fieldLink RJ0 38 "java/lang/String" "COMPACT_STRINGS" "Z" ∈ am_bw := am_in (am_r1 _ (List.mem_of_getElem? (i := 212) rfl)) rfl
theorem aw_1_214 : Cond.methodLink RX6 79 yJ0_charAt_5068e ∈ am_bw := am_in (am_r1 _ (List.mem_of_getElem? (i := 214) rfl)) rfl
theorem aw_1_215 : Cond.instanceMethod yJ0_charAt_5068e ∈ am_bw := am_in (am_r1 _ (List.mem_of_getElem? (i := 215) rfl)) rfl
theorem aw_1_216 : Cond.selects RJ0 yJ0_charAt_5068e yJ0_charAt_5068e ∈ am_bw := am_in (am_r1 _ (List.mem_of_getElem? (i := 216) rfl)) rfl
theorem aw_1_217 : Cond.code yJ0_charAt_5068e cJ0_charAt_5068e 2 (some .char) ∈ am_bw := am_in (am_r1 _ (List.mem_of_getElem? (i := 217) rfl)) rfl
theorem aw_1_218 : Cond.methodLink RJ0 492 yJ0_isLatin1_aae02 ∈ am_bw := am_in (am_r1 _ (List.mem_of_getElem? (i := 218) rfl)) rfl
theorem aw_1_219 : Cond.instanceMethod yJ0_isLatin1_aae02 ∈ am_bw := am_in (am_r1 _ (List.mem_of_getElem? (i := 219) rfl)) rfl
theorem aw_1_22 : Cond.methodLink RX6 1 objectInit ∈ am_bw := am_in (am_r1 _ (List.mem_of_getElem? (i := 22) rfl)) rfl
theorem aw_1_220 : Cond.selects RJ0 yJ0_isLatin1_aae02 yJ0_isLatin1_aae02 ∈ am_bw := am_in (am_r1 _ (List.mem_of_getElem? (i := 220) rfl)) rfl
theorem aw_1_221 : Cond.code yJ0_isLatin1_aae02 cJ0_isLatin1_aae02 1 (some .boolean) ∈ am_bw := am_in (am_r1 _ (List.mem_of_getElem? (i := 221) rfl)) rfl
theorem aw_1_222 : Cond.methodLink RJ0 495 yJ1_charAt_3b067 ∈ am_bw := am_in (am_r1 _ (List.mem_of_getElem? (i := 222) rfl)) rfl
theorem aw_1_223 : Cond.static yJ1_charAt_3b067 ∈ am_bw := am_in (am_r1 _ (List.mem_of_getElem? (i := 223) rfl)) rfl
theorem aw_1_224 : Cond.code yJ1_charAt_3b067 cJ1_charAt_3b067 2 (some .char) ∈ am_bw := am_in (am_r1 _ (List.mem_of_getElem? (i := 224) rfl)) rfl
theorem aw_1_225 : Cond.methodLink RJ1 9 yJ0_checkIndex_df160 ∈ am_bw := am_in (am_r1 _ (List.mem_of_getElem? (i := 225) rfl)) rfl
theorem aw_1_226 : Cond.static yJ0_checkIndex_df160 ∈ am_bw := am_in (am_r1 _ (List.mem_of_getElem? (i := 226) rfl)) rfl
theorem aw_1_227 : Cond.code yJ0_checkIndex_df160 cJ0_checkIndex_df160 2 none ∈ am_bw := am_in (am_r1 _ (List.mem_of_getElem? (i := 227) rfl)) rfl
theorem aw_1_228 : Cond.fieldLink RJ0 1053 "jdk/internal/util/Preconditions" "SIOOBE_FORMATTER" "Ljava/util/function/BiFunction;" ∈ am_bw := am_in (am_r1 _ (List.mem_of_getElem? (i := 228) rfl)) rfl
theorem aw_1_23 : Cond.instanceMethod objectInit ∈ am_bw := am_in (am_r1 _ (List.mem_of_getElem? (i := 23) rfl)) rfl
theorem aw_1_230 : Cond.methodLink RJ0 1059 yJ3_checkIndex_8e157 ∈ am_bw := am_in (am_r1 _ (List.mem_of_getElem? (i := 230) rfl)) rfl
theorem aw_1_231 : Cond.static yJ3_checkIndex_8e157 ∈ am_bw := am_in (am_r1 _ (List.mem_of_getElem? (i := 231) rfl)) rfl
theorem aw_1_232 : Cond.code yJ3_checkIndex_8e157 cJ3_checkIndex_8e157 3 (some .int) ∈ am_bw := am_in (am_r1 _ (List.mem_of_getElem? (i := 232) rfl)) rfl
theorem aw_1_24 : Cond.code objectInit ⟨#[0xb1]⟩ 1 none ∈ am_bw := am_in (am_r1 _ (List.mem_of_getElem? (i := 24) rfl)) rfl
theorem aw_1_25 : Cond.classLink RX6 7 RX5 ∈ am_bw := am_in (am_r1 _ (List.mem_of_getElem? (i := 25) rfl)) rfl
theorem aw_1_26 : Cond.instantiable RX5 4 ∈ am_bw := am_in (am_r1 _ (List.mem_of_getElem? (i := 26) rfl)) rfl
theorem aw_1_28 : Cond.instanceMethod yX5_init ∈ am_bw := am_in (am_r1 _ (List.mem_of_getElem? (i := 28) rfl)) rfl
theorem aw_1_29 : Cond.code yX5_init cX5_init 1 none ∈ am_bw := am_in (am_r1 _ (List.mem_of_getElem? (i := 29) rfl)) rfl
theorem aw_1_3 : Cond.initialized RX0 ∈ am_bw := am_in (am_r1 _ (List.mem_of_getElem? (i := 3) rfl)) rfl
theorem aw_1_30 : Cond.methodLink RX5 3 objectInit ∈ am_bw := am_in (am_r1 _ (List.mem_of_getElem? (i := 30) rfl)) rfl
theorem aw_1_31 : Cond.fieldLink RX5 9 "LampsOfDissent$Text" "letters" "[I" ∈ am_bw := am_in (am_r1 _ (List.mem_of_getElem? (i := 31) rfl)) rfl
theorem aw_1_32 : Cond.fieldLink RX5 15 "LampsOfDissent$Text" "numbers" "[I" ∈ am_bw := am_in (am_r1 _ (List.mem_of_getElem? (i := 32) rfl)) rfl
theorem aw_1_34 : Cond.fieldLink RX5 18 "LampsOfDissent$Text" "length" "I" ∈ am_bw := am_in (am_r1 _ (List.mem_of_getElem? (i := 34) rfl)) rfl
theorem aw_1_35 : Cond.fieldLink RX5 27 "LampsOfDissent$Text" "at" "I" ∈ am_bw := am_in (am_r1 _ (List.mem_of_getElem? (i := 35) rfl)) rfl
theorem aw_1_36 : Cond.laysFinal RX5 "LampsOfDissent$Text" "letters" "[I" ∈ am_bw := am_in (am_r1 _ (List.mem_of_getElem? (i := 36) rfl)) rfl
theorem aw_1_38 : Cond.laysFinal RX5 "LampsOfDissent$Text" "numbers" "[I" ∈ am_bw := am_in (am_r1 _ (List.mem_of_getElem? (i := 38) rfl)) rfl
theorem aw_1_4 : Cond.initialized RX2 ∈ am_bw := am_in (am_r1 _ (List.mem_of_getElem? (i := 4) rfl)) rfl
theorem aw_1_40 : Cond.lays RX5 "LampsOfDissent$Text" "length" "I" ∈ am_bw := am_in (am_r1 _ (List.mem_of_getElem? (i := 40) rfl)) rfl
theorem aw_1_42 : Cond.lays RX5 "LampsOfDissent$Text" "at" "I" ∈ am_bw := am_in (am_r1 _ (List.mem_of_getElem? (i := 42) rfl)) rfl
theorem aw_1_45 : Cond.arrayClass ClassFile.FieldType.int ∈ am_bw := am_in (am_r1 _ (List.mem_of_getElem? (i := 45) rfl)) rfl
theorem aw_1_46 : Cond.classLink RX6 16 RX0 ∈ am_bw := am_in (am_r1 _ (List.mem_of_getElem? (i := 46) rfl)) rfl
theorem aw_1_47 : Cond.instantiable RX0 8 ∈ am_bw := am_in (am_r1 _ (List.mem_of_getElem? (i := 47) rfl)) rfl
theorem aw_1_49 : Cond.instanceMethod yX0_init ∈ am_bw := am_in (am_r1 _ (List.mem_of_getElem? (i := 49) rfl)) rfl
theorem aw_1_5 : Cond.initialized RX3 ∈ am_bw := am_in (am_r1 _ (List.mem_of_getElem? (i := 5) rfl)) rfl
theorem aw_1_50 : Cond.code yX0_init cX0_init 1 none ∈ am_bw := am_in (am_r1 _ (List.mem_of_getElem? (i := 50) rfl)) rfl
theorem aw_1_51 : Cond.methodLink RX0 3 objectInit ∈ am_bw := am_in (am_r1 _ (List.mem_of_getElem? (i := 51) rfl)) rfl
theorem aw_1_52 : Cond.classLink RX0 9 RX2 ∈ am_bw := am_in (am_r1 _ (List.mem_of_getElem? (i := 52) rfl)) rfl
theorem aw_1_53 : Cond.instantiable RX2 7 ∈ am_bw := am_in (am_r1 _ (List.mem_of_getElem? (i := 53) rfl)) rfl
theorem aw_1_55 : Cond.instanceMethod yX2_init ∈ am_bw := am_in (am_r1 _ (List.mem_of_getElem? (i := 55) rfl)) rfl
theorem aw_1_56 : Cond.code yX2_init cX2_init 1 none ∈ am_bw := am_in (am_r1 _ (List.mem_of_getElem? (i := 56) rfl)) rfl
theorem aw_1_57 : Cond.methodLink RX2 3 objectInit ∈ am_bw := am_in (am_r1 _ (List.mem_of_getElem? (i := 57) rfl)) rfl
theorem aw_1_58 : Cond.fieldLink RX2 9 "LampsOfDissent$Moment" "kind" "[I" ∈ am_bw := am_in (am_r1 _ (List.mem_of_getElem? (i := 58) rfl)) rfl
theorem aw_1_6 : Cond.initialized RX1 ∈ am_bw := am_in (am_r1 _ (List.mem_of_getElem? (i := 6) rfl)) rfl
theorem aw_1_61 : Cond.fieldLink RX2 15 "LampsOfDissent$Moment" "opinions" "[I" ∈ am_bw := am_in (am_r1 _ (List.mem_of_getElem? (i := 61) rfl)) rfl
theorem aw_1_64 : Cond.fieldLink RX2 18 "LampsOfDissent$Moment" "temper" "[I" ∈ am_bw := am_in (am_r1 _ (List.mem_of_getElem? (i := 64) rfl)) rfl
theorem aw_1_67 : Cond.fieldLink RX2 21 "LampsOfDissent$Moment" "home" "[I" ∈ am_bw := am_in (am_r1 _ (List.mem_of_getElem? (i := 67) rfl)) rfl
theorem aw_1_7 : Cond.initialized RX4 ∈ am_bw := am_in (am_r1 _ (List.mem_of_getElem? (i := 7) rfl)) rfl
theorem aw_1_71 : Cond.fieldLink RX2 24 "LampsOfDissent$Moment" "foes" "[I" ∈ am_bw := am_in (am_r1 _ (List.mem_of_getElem? (i := 71) rfl)) rfl
theorem aw_1_72 : Cond.fieldLink RX2 33 "LampsOfDissent$Moment" "hour" "I" ∈ am_bw := am_in (am_r1 _ (List.mem_of_getElem? (i := 72) rfl)) rfl
theorem aw_1_75 : Cond.fieldLink RX2 37 "LampsOfDissent$Moment" "rations" "I" ∈ am_bw := am_in (am_r1 _ (List.mem_of_getElem? (i := 75) rfl)) rfl
theorem aw_1_79 : Cond.laysFinal RX2 "LampsOfDissent$Moment" "kind" "[I" ∈ am_bw := am_in (am_r1 _ (List.mem_of_getElem? (i := 79) rfl)) rfl
theorem aw_1_8 : Cond.initialized RJ0 ∈ am_bw := am_in (am_r1 _ (List.mem_of_getElem? (i := 8) rfl)) rfl
theorem aw_1_81 : Cond.laysFinal RX2 "LampsOfDissent$Moment" "opinions" "[I" ∈ am_bw := am_in (am_r1 _ (List.mem_of_getElem? (i := 81) rfl)) rfl
theorem aw_1_83 : Cond.laysFinal RX2 "LampsOfDissent$Moment" "temper" "[I" ∈ am_bw := am_in (am_r1 _ (List.mem_of_getElem? (i := 83) rfl)) rfl
theorem aw_1_85 : Cond.laysFinal RX2 "LampsOfDissent$Moment" "home" "[I" ∈ am_bw := am_in (am_r1 _ (List.mem_of_getElem? (i := 85) rfl)) rfl
theorem aw_1_87 : Cond.laysFinal RX2 "LampsOfDissent$Moment" "foes" "[I" ∈ am_bw := am_in (am_r1 _ (List.mem_of_getElem? (i := 87) rfl)) rfl
theorem aw_1_89 : Cond.lays RX2 "LampsOfDissent$Moment" "hour" "I" ∈ am_bw := am_in (am_r1 _ (List.mem_of_getElem? (i := 89) rfl)) rfl
theorem aw_1_9 : Cond.initialized RJ1 ∈ am_bw := am_in (am_r1 _ (List.mem_of_getElem? (i := 9) rfl)) rfl
theorem aw_1_91 : Cond.lays RX2 "LampsOfDissent$Moment" "rations" "I" ∈ am_bw := am_in (am_r1 _ (List.mem_of_getElem? (i := 91) rfl)) rfl
theorem aw_1_94 : Cond.fieldLink RX0 12 "LampsOfDissent$City" "start" "LLampsOfDissent$Moment;" ∈ am_bw := am_in (am_r1 _ (List.mem_of_getElem? (i := 94) rfl)) rfl
theorem aw_1_96 : Cond.fieldLink RX0 18 "LampsOfDissent$City" "workHouse" "[I" ∈ am_bw := am_in (am_r1 _ (List.mem_of_getElem? (i := 96) rfl)) rfl
theorem aw_1_99 : Cond.fieldLink RX0 22 "LampsOfDissent$City" "workNeed" "[I" ∈ am_bw := am_in (am_r1 _ (List.mem_of_getElem? (i := 99) rfl)) rfl
theorem aw_2_100 : Cond.laysFinal RX6 "LampsOfDissent" "later" "LLampsOfDissent$Moment;" ∈ am_bw := am_in (am_r2 _ (List.mem_of_getElem? (i := 100) rfl)) rfl
theorem aw_2_102 : Cond.laysFinal RX6 "LampsOfDissent" "past" "LLampsOfDissent$Past;" ∈ am_bw := am_in (am_r2 _ (List.mem_of_getElem? (i := 102) rfl)) rfl
theorem aw_2_104 : Cond.laysFinal RX6 "LampsOfDissent" "kept" "[LLampsOfDissent$Moment;" ∈ am_bw := am_in (am_r2 _ (List.mem_of_getElem? (i := 104) rfl)) rfl
theorem aw_2_106 : Cond.lays RX6 "LampsOfDissent" "keptCount" "I" ∈ am_bw := am_in (am_r2 _ (List.mem_of_getElem? (i := 106) rfl)) rfl
theorem aw_2_108 : Cond.laysFinal RX6 "LampsOfDissent" "seenHouse" "[I" ∈ am_bw := am_in (am_r2 _ (List.mem_of_getElem? (i := 108) rfl)) rfl
theorem aw_2_110 : Cond.laysFinal RX6 "LampsOfDissent" "seenLight" "[I" ∈ am_bw := am_in (am_r2 _ (List.mem_of_getElem? (i := 110) rfl)) rfl
theorem aw_2_112 : Cond.lays RX6 "LampsOfDissent" "seenCount" "I" ∈ am_bw := am_in (am_r2 _ (List.mem_of_getElem? (i := 112) rfl)) rfl
theorem aw_2_114 : Cond.laysFinal RX6 "LampsOfDissent" "homeSearch" "LLampsOfDissent$HomeSearch;" ∈ am_bw := am_in (am_r2 _ (List.mem_of_getElem? (i := 114) rfl)) rfl
theorem aw_2_116 : Cond.laysFinal RX6 "LampsOfDissent" "talkSearch" "LLampsOfDissent$TalkSearch;" ∈ am_bw := am_in (am_r2 _ (List.mem_of_getElem? (i := 116) rfl)) rfl
theorem aw_2_118 : Cond.laysFinal RX6 "LampsOfDissent" "spouse" "[I" ∈ am_bw := am_in (am_r2 _ (List.mem_of_getElem? (i := 118) rfl)) rfl
theorem aw_2_12 : Cond.methodLink RX6 83 yX5_append ∈ am_bw := am_in (am_r2 _ (List.mem_of_getElem? (i := 12) rfl)) rfl
theorem aw_2_123 : Cond.instanceMethod yX6_write ∈ am_bw := am_in (am_r2 _ (List.mem_of_getElem? (i := 123) rfl)) rfl
theorem aw_2_124 : Cond.selects RX6 yX6_write yX6_write ∈ am_bw := am_in (am_r2 _ (List.mem_of_getElem? (i := 124) rfl)) rfl
theorem aw_2_125 : Cond.code yX6_write cX6_write 2 (some .int) ∈ am_bw := am_in (am_r2 _ (List.mem_of_getElem? (i := 125) rfl)) rfl
theorem aw_2_127 : Cond.instanceMethod yX6_wipe ∈ am_bw := am_in (am_r2 _ (List.mem_of_getElem? (i := 127) rfl)) rfl
theorem aw_2_128 : Cond.selects RX6 yX6_wipe yX6_wipe ∈ am_bw := am_in (am_r2 _ (List.mem_of_getElem? (i := 128) rfl)) rfl
theorem aw_2_129 : Cond.code yX6_wipe cX6_wipe 2 (some .int) ∈ am_bw := am_in (am_r2 _ (List.mem_of_getElem? (i := 129) rfl)) rfl
theorem aw_2_13 : Cond.instanceMethod yX5_append ∈ am_bw := am_in (am_r2 _ (List.mem_of_getElem? (i := 13) rfl)) rfl
theorem aw_2_131 : Cond.instanceMethod yX6_fault ∈ am_bw := am_in (am_r2 _ (List.mem_of_getElem? (i := 131) rfl)) rfl
theorem aw_2_132 : Cond.selects RX6 yX6_fault yX6_fault ∈ am_bw := am_in (am_r2 _ (List.mem_of_getElem? (i := 132) rfl)) rfl
theorem aw_2_133 : Cond.code yX6_fault cX6_fault 1 (some .int) ∈ am_bw := am_in (am_r2 _ (List.mem_of_getElem? (i := 133) rfl)) rfl
theorem aw_2_135 : Cond.instanceMethod yX6_lay ∈ am_bw := am_in (am_r2 _ (List.mem_of_getElem? (i := 135) rfl)) rfl
theorem aw_2_136 : Cond.selects RX6 yX6_lay yX6_lay ∈ am_bw := am_in (am_r2 _ (List.mem_of_getElem? (i := 136) rfl)) rfl
theorem aw_2_137 : Cond.code yX6_lay cX6_lay 1 (some .int) ∈ am_bw := am_in (am_r2 _ (List.mem_of_getElem? (i := 137) rfl)) rfl
theorem aw_2_139 : Cond.instanceMethod yX6_person ∈ am_bw := am_in (am_r2 _ (List.mem_of_getElem? (i := 139) rfl)) rfl
theorem aw_2_14 : Cond.selects RX5 yX5_append yX5_append ∈ am_bw := am_in (am_r2 _ (List.mem_of_getElem? (i := 14) rfl)) rfl
theorem aw_2_140 : Cond.selects RX6 yX6_person yX6_person ∈ am_bw := am_in (am_r2 _ (List.mem_of_getElem? (i := 140) rfl)) rfl
theorem aw_2_141 : Cond.code yX6_person cX6_person 3 (some .int) ∈ am_bw := am_in (am_r2 _ (List.mem_of_getElem? (i := 141) rfl)) rfl
theorem aw_2_142 : Cond.methodLink RX6 101 yX6_isPerson ∈ am_bw := am_in (am_r2 _ (List.mem_of_getElem? (i := 142) rfl)) rfl
theorem aw_2_144 : Cond.instanceMethod yX6_isPerson ∈ am_bw := am_in (am_r2 _ (List.mem_of_getElem? (i := 144) rfl)) rfl
theorem aw_2_145 : Cond.code yX6_isPerson cX6_isPerson 2 (some .boolean) ∈ am_bw := am_in (am_r2 _ (List.mem_of_getElem? (i := 145) rfl)) rfl
theorem aw_2_146 : Cond.methodLink RX6 116 yX0_talkedOf ∈ am_bw := am_in (am_r2 _ (List.mem_of_getElem? (i := 146) rfl)) rfl
theorem aw_2_147 : Cond.instanceMethod yX0_talkedOf ∈ am_bw := am_in (am_r2 _ (List.mem_of_getElem? (i := 147) rfl)) rfl
theorem aw_2_148 : Cond.selects RX0 yX0_talkedOf yX0_talkedOf ∈ am_bw := am_in (am_r2 _ (List.mem_of_getElem? (i := 148) rfl)) rfl
theorem aw_2_149 : Cond.code yX0_talkedOf cX0_talkedOf 2 (some .int) ∈ am_bw := am_in (am_r2 _ (List.mem_of_getElem? (i := 149) rfl)) rfl
theorem aw_2_15 : Cond.code yX5_append cX5_append 2 (some .boolean) ∈ am_bw := am_in (am_r2 _ (List.mem_of_getElem? (i := 15) rfl)) rfl
theorem aw_2_150 : Cond.methodLink RX0 62 yJ9_floorMod_7cf53 ∈ am_bw := am_in (am_r2 _ (List.mem_of_getElem? (i := 150) rfl)) rfl
theorem aw_2_151 : Cond.static yJ9_floorMod_7cf53 ∈ am_bw := am_in (am_r2 _ (List.mem_of_getElem? (i := 151) rfl)) rfl
theorem aw_2_152 : Cond.code yJ9_floorMod_7cf53 cJ9_floorMod_7cf53 3 (some .int) ∈ am_bw := am_in (am_r2 _ (List.mem_of_getElem? (i := 152) rfl)) rfl
theorem aw_2_153 : Cond.methodLink RX6 120 yX2_foesOf ∈ am_bw := am_in (am_r2 _ (List.mem_of_getElem? (i := 153) rfl)) rfl
theorem aw_2_154 : Cond.instanceMethod yX2_foesOf ∈ am_bw := am_in (am_r2 _ (List.mem_of_getElem? (i := 154) rfl)) rfl
theorem aw_2_155 : Cond.selects RX2 yX2_foesOf yX2_foesOf ∈ am_bw := am_in (am_r2 _ (List.mem_of_getElem? (i := 155) rfl)) rfl
theorem aw_2_156 : Cond.code yX2_foesOf cX2_foesOf 5 (some .int) ∈ am_bw := am_in (am_r2 _ (List.mem_of_getElem? (i := 156) rfl)) rfl
theorem aw_2_157 : Cond.methodLink RX2 60 yX2_together ∈ am_bw := am_in (am_r2 _ (List.mem_of_getElem? (i := 157) rfl)) rfl
theorem aw_2_158 : Cond.instanceMethod yX2_together ∈ am_bw := am_in (am_r2 _ (List.mem_of_getElem? (i := 158) rfl)) rfl
theorem aw_2_159 : Cond.selects RX2 yX2_together yX2_together ∈ am_bw := am_in (am_r2 _ (List.mem_of_getElem? (i := 159) rfl)) rfl
theorem aw_2_16 : Cond.methodLink RX6 87 yX6_layText ∈ am_bw := am_in (am_r2 _ (List.mem_of_getElem? (i := 16) rfl)) rfl
theorem aw_2_160 : Cond.code yX2_together cX2_together 3 (some .boolean) ∈ am_bw := am_in (am_r2 _ (List.mem_of_getElem? (i := 160) rfl)) rfl
theorem aw_2_161 : Cond.methodLink RX2 46 yX2_quarrelOf ∈ am_bw := am_in (am_r2 _ (List.mem_of_getElem? (i := 161) rfl)) rfl
theorem aw_2_162 : Cond.instanceMethod yX2_quarrelOf ∈ am_bw := am_in (am_r2 _ (List.mem_of_getElem? (i := 162) rfl)) rfl
theorem aw_2_163 : Cond.selects RX2 yX2_quarrelOf yX2_quarrelOf ∈ am_bw := am_in (am_r2 _ (List.mem_of_getElem? (i := 163) rfl)) rfl
theorem aw_2_164 : Cond.code yX2_quarrelOf cX2_quarrelOf 5 (some .int) ∈ am_bw := am_in (am_r2 _ (List.mem_of_getElem? (i := 164) rfl)) rfl
theorem aw_2_166 : Cond.instanceMethod yX6_work ∈ am_bw := am_in (am_r2 _ (List.mem_of_getElem? (i := 166) rfl)) rfl
theorem aw_2_167 : Cond.selects RX6 yX6_work yX6_work ∈ am_bw := am_in (am_r2 _ (List.mem_of_getElem? (i := 167) rfl)) rfl
theorem aw_2_168 : Cond.code yX6_work cX6_work 3 (some .int) ∈ am_bw := am_in (am_r2 _ (List.mem_of_getElem? (i := 168) rfl)) rfl
theorem aw_2_169 : Cond.methodLink RX6 133 yX0_worksLit ∈ am_bw := am_in (am_r2 _ (List.mem_of_getElem? (i := 169) rfl)) rfl
theorem aw_2_170 : Cond.instanceMethod yX0_worksLit ∈ am_bw := am_in (am_r2 _ (List.mem_of_getElem? (i := 170) rfl)) rfl
theorem aw_2_171 : Cond.selects RX0 yX0_worksLit yX0_worksLit ∈ am_bw := am_in (am_r2 _ (List.mem_of_getElem? (i := 171) rfl)) rfl
theorem aw_2_172 : Cond.code yX0_worksLit cX0_worksLit 5 (some .int) ∈ am_bw := am_in (am_r2 _ (List.mem_of_getElem? (i := 172) rfl)) rfl
theorem aw_2_173 : Cond.methodLink RX0 68 yX2_lightOf ∈ am_bw := am_in (am_r2 _ (List.mem_of_getElem? (i := 173) rfl)) rfl
theorem aw_2_174 : Cond.instanceMethod yX2_lightOf ∈ am_bw := am_in (am_r2 _ (List.mem_of_getElem? (i := 174) rfl)) rfl
theorem aw_2_175 : Cond.selects RX2 yX2_lightOf yX2_lightOf ∈ am_bw := am_in (am_r2 _ (List.mem_of_getElem? (i := 175) rfl)) rfl
theorem aw_2_176 : Cond.code yX2_lightOf cX2_lightOf 6 (some .int) ∈ am_bw := am_in (am_r2 _ (List.mem_of_getElem? (i := 176) rfl)) rfl
theorem aw_2_177 : Cond.methodLink RX2 63 yX2_lightOfTwo ∈ am_bw := am_in (am_r2 _ (List.mem_of_getElem? (i := 177) rfl)) rfl
theorem aw_2_178 : Cond.instanceMethod yX2_lightOfTwo ∈ am_bw := am_in (am_r2 _ (List.mem_of_getElem? (i := 178) rfl)) rfl
theorem aw_2_179 : Cond.selects RX2 yX2_lightOfTwo yX2_lightOfTwo ∈ am_bw := am_in (am_r2 _ (List.mem_of_getElem? (i := 179) rfl)) rfl
theorem aw_2_18 : Cond.instanceMethod yX6_layText ∈ am_bw := am_in (am_r2 _ (List.mem_of_getElem? (i := 18) rfl)) rfl
theorem aw_2_180 : Cond.code yX2_lightOfTwo cX2_lightOfTwo 5 (some .int) ∈ am_bw := am_in (am_r2 _ (List.mem_of_getElem? (i := 180) rfl)) rfl
theorem aw_2_181 : Cond.methodLink RX2 50 yJ6_bitCount_0f7a4 ∈ am_bw := am_in (am_r2 _ (List.mem_of_getElem? (i := 181) rfl)) rfl
theorem aw_2_182 : Cond.static yJ6_bitCount_0f7a4 ∈ am_bw := am_in (am_r2 _ (List.mem_of_getElem? (i := 182) rfl)) rfl
theorem aw_2_183 : Cond.code yJ6_bitCount_0f7a4 cJ6_bitCount_0f7a4 1 (some .int) ∈ am_bw := am_in (am_r2 _ (List.mem_of_getElem? (i := 183) rfl)) rfl
theorem aw_2_184 : Cond.constant RJ6 265 (1431655765) ∈ am_bw := am_in (am_r2 _ (List.mem_of_getElem? (i := 184) rfl)) rfl
theorem aw_2_185 : Cond.constant RJ6 266 (858993459) ∈ am_bw := am_in (am_r2 _ (List.mem_of_getElem? (i := 185) rfl)) rfl
theorem aw_2_186 : Cond.constant RJ6 267 (252645135) ∈ am_bw := am_in (am_r2 _ (List.mem_of_getElem? (i := 186) rfl)) rfl
theorem aw_2_187 : Cond.methodLink RX2 56 yX2_isFalsePair ∈ am_bw := am_in (am_r2 _ (List.mem_of_getElem? (i := 187) rfl)) rfl
theorem aw_2_189 : Cond.instanceMethod yX2_isFalsePair ∈ am_bw := am_in (am_r2 _ (List.mem_of_getElem? (i := 189) rfl)) rfl
theorem aw_2_19 : Cond.code yX6_layText cX6_layText 2 (some .boolean) ∈ am_bw := am_in (am_r2 _ (List.mem_of_getElem? (i := 19) rfl)) rfl
theorem aw_2_190 : Cond.code yX2_isFalsePair cX2_isFalsePair 3 (some .boolean) ∈ am_bw := am_in (am_r2 _ (List.mem_of_getElem? (i := 190) rfl)) rfl
theorem aw_2_191 : Cond.methodLink RX2 66 yJ9_min_7cf53 ∈ am_bw := am_in (am_r2 _ (List.mem_of_getElem? (i := 191) rfl)) rfl
theorem aw_2_192 : Cond.static yJ9_min_7cf53 ∈ am_bw := am_in (am_r2 _ (List.mem_of_getElem? (i := 192) rfl)) rfl
theorem aw_2_193 : Cond.code yJ9_min_7cf53 cJ9_min_7cf53 2 (some .int) ∈ am_bw := am_in (am_r2 _ (List.mem_of_getElem? (i := 193) rfl)) rfl
theorem aw_2_195 : Cond.instanceMethod yX6_pass ∈ am_bw := am_in (am_r2 _ (List.mem_of_getElem? (i := 195) rfl)) rfl
theorem aw_2_196 : Cond.selects RX6 yX6_pass yX6_pass ∈ am_bw := am_in (am_r2 _ (List.mem_of_getElem? (i := 196) rfl)) rfl
theorem aw_2_197 : Cond.code yX6_pass cX6_pass 3 (some .int) ∈ am_bw := am_in (am_r2 _ (List.mem_of_getElem? (i := 197) rfl)) rfl
theorem aw_2_198 : Cond.methodLink RX6 140 yX3_remember ∈ am_bw := am_in (am_r2 _ (List.mem_of_getElem? (i := 198) rfl)) rfl
theorem aw_2_199 : Cond.instanceMethod yX3_remember ∈ am_bw := am_in (am_r2 _ (List.mem_of_getElem? (i := 199) rfl)) rfl
theorem aw_2_20 : Cond.methodLink RX6 94 yX5_readInto ∈ am_bw := am_in (am_r2 _ (List.mem_of_getElem? (i := 20) rfl)) rfl
theorem aw_2_200 : Cond.selects RX3 yX3_remember yX3_remember ∈ am_bw := am_in (am_r2 _ (List.mem_of_getElem? (i := 200) rfl)) rfl
theorem aw_2_201 : Cond.code yX3_remember cX3_remember 2 none ∈ am_bw := am_in (am_r2 _ (List.mem_of_getElem? (i := 201) rfl)) rfl
theorem aw_2_202 : Cond.methodLink RX3 22 yX2_copy ∈ am_bw := am_in (am_r2 _ (List.mem_of_getElem? (i := 202) rfl)) rfl
theorem aw_2_203 : Cond.methodLink RX3 29 yJ9_min_7cf53 ∈ am_bw := am_in (am_r2 _ (List.mem_of_getElem? (i := 203) rfl)) rfl
theorem aw_2_204 : Cond.methodLink RX6 144 yX2_goBy ∈ am_bw := am_in (am_r2 _ (List.mem_of_getElem? (i := 204) rfl)) rfl
theorem aw_2_205 : Cond.instanceMethod yX2_goBy ∈ am_bw := am_in (am_r2 _ (List.mem_of_getElem? (i := 205) rfl)) rfl
theorem aw_2_206 : Cond.selects RX2 yX2_goBy yX2_goBy ∈ am_bw := am_in (am_r2 _ (List.mem_of_getElem? (i := 206) rfl)) rfl
theorem aw_2_207 : Cond.code yX2_goBy cX2_goBy 3 none ∈ am_bw := am_in (am_r2 _ (List.mem_of_getElem? (i := 207) rfl)) rfl
theorem aw_2_208 : Cond.methodLink RX2 72 yX2_foesOf ∈ am_bw := am_in (am_r2 _ (List.mem_of_getElem? (i := 208) rfl)) rfl
theorem aw_2_209 : Cond.methodLink RX2 75 yX2_changeTempers ∈ am_bw := am_in (am_r2 _ (List.mem_of_getElem? (i := 209) rfl)) rfl
theorem aw_2_21 : Cond.instanceMethod yX5_readInto ∈ am_bw := am_in (am_r2 _ (List.mem_of_getElem? (i := 21) rfl)) rfl
theorem aw_2_211 : Cond.instanceMethod yX2_changeTempers ∈ am_bw := am_in (am_r2 _ (List.mem_of_getElem? (i := 211) rfl)) rfl
theorem aw_2_212 : Cond.code yX2_changeTempers cX2_changeTempers 4 none ∈ am_bw := am_in (am_r2 _ (List.mem_of_getElem? (i := 212) rfl)) rfl
theorem aw_2_213 : Cond.methodLink RX2 81 yJ9_max_7cf53 ∈ am_bw := am_in (am_r2 _ (List.mem_of_getElem? (i := 213) rfl)) rfl
theorem aw_2_214 : Cond.static yJ9_max_7cf53 ∈ am_bw := am_in (am_r2 _ (List.mem_of_getElem? (i := 214) rfl)) rfl
theorem aw_2_215 : Cond.code yJ9_max_7cf53 cJ9_max_7cf53 2 (some .int) ∈ am_bw := am_in (am_r2 _ (List.mem_of_getElem? (i := 215) rfl)) rfl
theorem aw_2_216 : Cond.methodLink RX2 78 yX2_changeOpinions ∈ am_bw := am_in (am_r2 _ (List.mem_of_getElem? (i := 216) rfl)) rfl
theorem aw_2_218 : Cond.instanceMethod yX2_changeOpinions ∈ am_bw := am_in (am_r2 _ (List.mem_of_getElem? (i := 218) rfl)) rfl
theorem aw_2_219 : Cond.code yX2_changeOpinions cX2_changeOpinions 4 none ∈ am_bw := am_in (am_r2 _ (List.mem_of_getElem? (i := 219) rfl)) rfl
theorem aw_2_22 : Cond.selects RX5 yX5_readInto yX5_readInto ∈ am_bw := am_in (am_r2 _ (List.mem_of_getElem? (i := 22) rfl)) rfl
theorem aw_2_221 : Cond.instanceMethod yX6_move ∈ am_bw := am_in (am_r2 _ (List.mem_of_getElem? (i := 221) rfl)) rfl
theorem aw_2_222 : Cond.selects RX6 yX6_move yX6_move ∈ am_bw := am_in (am_r2 _ (List.mem_of_getElem? (i := 222) rfl)) rfl
theorem aw_2_223 : Cond.code yX6_move cX6_move 4 (some .int) ∈ am_bw := am_in (am_r2 _ (List.mem_of_getElem? (i := 223) rfl)) rfl
theorem aw_2_224 : Cond.methodLink RX6 148 yX6_isHouse ∈ am_bw := am_in (am_r2 _ (List.mem_of_getElem? (i := 224) rfl)) rfl
theorem aw_2_226 : Cond.instanceMethod yX6_isHouse ∈ am_bw := am_in (am_r2 _ (List.mem_of_getElem? (i := 226) rfl)) rfl
theorem aw_2_227 : Cond.code yX6_isHouse cX6_isHouse 2 (some .boolean) ∈ am_bw := am_in (am_r2 _ (List.mem_of_getElem? (i := 227) rfl)) rfl
theorem aw_2_229 : Cond.instanceMethod yX6_alter ∈ am_bw := am_in (am_r2 _ (List.mem_of_getElem? (i := 229) rfl)) rfl
theorem aw_2_23 : Cond.code yX5_readInto cX5_readInto 4 (some .int) ∈ am_bw := am_in (am_r2 _ (List.mem_of_getElem? (i := 23) rfl)) rfl
theorem aw_2_230 : Cond.selects RX6 yX6_alter yX6_alter ∈ am_bw := am_in (am_r2 _ (List.mem_of_getElem? (i := 230) rfl)) rfl
theorem aw_2_231 : Cond.code yX6_alter cX6_alter 3 (some .int) ∈ am_bw := am_in (am_r2 _ (List.mem_of_getElem? (i := 231) rfl)) rfl
theorem aw_2_232 : Cond.methodLink RX6 151 yX6_isSubject ∈ am_bw := am_in (am_r2 _ (List.mem_of_getElem? (i := 232) rfl)) rfl
theorem aw_2_233 : Cond.static yX6_isSubject ∈ am_bw := am_in (am_r2 _ (List.mem_of_getElem? (i := 233) rfl)) rfl
theorem aw_2_234 : Cond.code yX6_isSubject cX6_isSubject 1 (some .boolean) ∈ am_bw := am_in (am_r2 _ (List.mem_of_getElem? (i := 234) rfl)) rfl
theorem aw_2_236 : Cond.instanceMethod yX6_ration ∈ am_bw := am_in (am_r2 _ (List.mem_of_getElem? (i := 236) rfl)) rfl
theorem aw_2_237 : Cond.selects RX6 yX6_ration yX6_ration ∈ am_bw := am_in (am_r2 _ (List.mem_of_getElem? (i := 237) rfl)) rfl
theorem aw_2_238 : Cond.code yX6_ration cX6_ration 2 (some .int) ∈ am_bw := am_in (am_r2 _ (List.mem_of_getElem? (i := 238) rfl)) rfl
theorem aw_2_24 : Cond.methodLink RX5 22 yX0_clear ∈ am_bw := am_in (am_r2 _ (List.mem_of_getElem? (i := 24) rfl)) rfl
theorem aw_2_25 : Cond.instanceMethod yX0_clear ∈ am_bw := am_in (am_r2 _ (List.mem_of_getElem? (i := 25) rfl)) rfl
theorem aw_2_26 : Cond.selects RX0 yX0_clear yX0_clear ∈ am_bw := am_in (am_r2 _ (List.mem_of_getElem? (i := 26) rfl)) rfl
theorem aw_2_27 : Cond.code yX0_clear cX0_clear 1 none ∈ am_bw := am_in (am_r2 _ (List.mem_of_getElem? (i := 27) rfl)) rfl
theorem aw_2_28 : Cond.methodLink RX0 28 yX2_clear ∈ am_bw := am_in (am_r2 _ (List.mem_of_getElem? (i := 28) rfl)) rfl
theorem aw_2_29 : Cond.instanceMethod yX2_clear ∈ am_bw := am_in (am_r2 _ (List.mem_of_getElem? (i := 29) rfl)) rfl
theorem aw_2_30 : Cond.selects RX2 yX2_clear yX2_clear ∈ am_bw := am_in (am_r2 _ (List.mem_of_getElem? (i := 30) rfl)) rfl
theorem aw_2_31 : Cond.code yX2_clear cX2_clear 1 none ∈ am_bw := am_in (am_r2 _ (List.mem_of_getElem? (i := 31) rfl)) rfl
theorem aw_2_32 : Cond.methodLink RX2 27 yJ7_fill_53178 ∈ am_bw := am_in (am_r2 _ (List.mem_of_getElem? (i := 32) rfl)) rfl
theorem aw_2_33 : Cond.static yJ7_fill_53178 ∈ am_bw := am_in (am_r2 _ (List.mem_of_getElem? (i := 33) rfl)) rfl
theorem aw_2_34 : Cond.code yJ7_fill_53178 cJ7_fill_53178 4 none ∈ am_bw := am_in (am_r2 _ (List.mem_of_getElem? (i := 34) rfl)) rfl
theorem aw_2_35 : Cond.methodLink RX5 30 yX5_readItem ∈ am_bw := am_in (am_r2 _ (List.mem_of_getElem? (i := 35) rfl)) rfl
theorem aw_2_37 : Cond.instanceMethod yX5_readItem ∈ am_bw := am_in (am_r2 _ (List.mem_of_getElem? (i := 37) rfl)) rfl
theorem aw_2_38 : Cond.code yX5_readItem cX5_readItem 3 (some .boolean) ∈ am_bw := am_in (am_r2 _ (List.mem_of_getElem? (i := 38) rfl)) rfl
theorem aw_2_39 : Cond.methodLink RX5 34 yX5_letterHere ∈ am_bw := am_in (am_r2 _ (List.mem_of_getElem? (i := 39) rfl)) rfl
theorem aw_2_41 : Cond.instanceMethod yX5_letterHere ∈ am_bw := am_in (am_r2 _ (List.mem_of_getElem? (i := 41) rfl)) rfl
theorem aw_2_42 : Cond.code yX5_letterHere cX5_letterHere 1 (some .int) ∈ am_bw := am_in (am_r2 _ (List.mem_of_getElem? (i := 42) rfl)) rfl
theorem aw_2_43 : Cond.methodLink RX5 38 yX5_readNumbers ∈ am_bw := am_in (am_r2 _ (List.mem_of_getElem? (i := 43) rfl)) rfl
theorem aw_2_45 : Cond.instanceMethod yX5_readNumbers ∈ am_bw := am_in (am_r2 _ (List.mem_of_getElem? (i := 45) rfl)) rfl
theorem aw_2_46 : Cond.code yX5_readNumbers cX5_readNumbers 5 (some .boolean) ∈ am_bw := am_in (am_r2 _ (List.mem_of_getElem? (i := 46) rfl)) rfl
theorem aw_2_47 : Cond.methodLink RX5 56 yX5_readNumber ∈ am_bw := am_in (am_r2 _ (List.mem_of_getElem? (i := 47) rfl)) rfl
theorem aw_2_49 : Cond.instanceMethod yX5_readNumber ∈ am_bw := am_in (am_r2 _ (List.mem_of_getElem? (i := 49) rfl)) rfl
theorem aw_2_50 : Cond.code yX5_readNumber cX5_readNumber 4 (some .int) ∈ am_bw := am_in (am_r2 _ (List.mem_of_getElem? (i := 50) rfl)) rfl
theorem aw_2_51 : Cond.methodLink RX5 42 yX0_addPerson ∈ am_bw := am_in (am_r2 _ (List.mem_of_getElem? (i := 51) rfl)) rfl
theorem aw_2_52 : Cond.instanceMethod yX0_addPerson ∈ am_bw := am_in (am_r2 _ (List.mem_of_getElem? (i := 52) rfl)) rfl
theorem aw_2_53 : Cond.selects RX0 yX0_addPerson yX0_addPerson ∈ am_bw := am_in (am_r2 _ (List.mem_of_getElem? (i := 53) rfl)) rfl
theorem aw_2_54 : Cond.code yX0_addPerson cX0_addPerson 2 (some .boolean) ∈ am_bw := am_in (am_r2 _ (List.mem_of_getElem? (i := 54) rfl)) rfl
theorem aw_2_55 : Cond.methodLink RX5 46 yX0_tellHouses ∈ am_bw := am_in (am_r2 _ (List.mem_of_getElem? (i := 55) rfl)) rfl
theorem aw_2_56 : Cond.instanceMethod yX0_tellHouses ∈ am_bw := am_in (am_r2 _ (List.mem_of_getElem? (i := 56) rfl)) rfl
theorem aw_2_57 : Cond.selects RX0 yX0_tellHouses yX0_tellHouses ∈ am_bw := am_in (am_r2 _ (List.mem_of_getElem? (i := 57) rfl)) rfl
theorem aw_2_58 : Cond.code yX0_tellHouses cX0_tellHouses 2 (some .boolean) ∈ am_bw := am_in (am_r2 _ (List.mem_of_getElem? (i := 58) rfl)) rfl
theorem aw_2_59 : Cond.methodLink RX5 49 yX0_addWork ∈ am_bw := am_in (am_r2 _ (List.mem_of_getElem? (i := 59) rfl)) rfl
theorem aw_2_60 : Cond.instanceMethod yX0_addWork ∈ am_bw := am_in (am_r2 _ (List.mem_of_getElem? (i := 60) rfl)) rfl
theorem aw_2_61 : Cond.selects RX0 yX0_addWork yX0_addWork ∈ am_bw := am_in (am_r2 _ (List.mem_of_getElem? (i := 61) rfl)) rfl
theorem aw_2_62 : Cond.code yX0_addWork cX0_addWork 3 (some .boolean) ∈ am_bw := am_in (am_r2 _ (List.mem_of_getElem? (i := 62) rfl)) rfl
theorem aw_2_63 : Cond.methodLink RX5 53 yX0_addSubjects ∈ am_bw := am_in (am_r2 _ (List.mem_of_getElem? (i := 63) rfl)) rfl
theorem aw_2_64 : Cond.instanceMethod yX0_addSubjects ∈ am_bw := am_in (am_r2 _ (List.mem_of_getElem? (i := 64) rfl)) rfl
theorem aw_2_65 : Cond.selects RX0 yX0_addSubjects yX0_addSubjects ∈ am_bw := am_in (am_r2 _ (List.mem_of_getElem? (i := 65) rfl)) rfl
theorem aw_2_66 : Cond.code yX0_addSubjects cX0_addSubjects 2 (some .boolean) ∈ am_bw := am_in (am_r2 _ (List.mem_of_getElem? (i := 66) rfl)) rfl
theorem aw_2_67 : Cond.methodLink RX6 268 yX0_canBeLaid ∈ am_bw := am_in (am_r2 _ (List.mem_of_getElem? (i := 67) rfl)) rfl
theorem aw_2_68 : Cond.instanceMethod yX0_canBeLaid ∈ am_bw := am_in (am_r2 _ (List.mem_of_getElem? (i := 68) rfl)) rfl
theorem aw_2_69 : Cond.selects RX0 yX0_canBeLaid yX0_canBeLaid ∈ am_bw := am_in (am_r2 _ (List.mem_of_getElem? (i := 69) rfl)) rfl
theorem aw_2_70 : Cond.code yX0_canBeLaid cX0_canBeLaid 2 (some .boolean) ∈ am_bw := am_in (am_r2 _ (List.mem_of_getElem? (i := 70) rfl)) rfl
theorem aw_2_71 : Cond.methodLink RX6 179 yX2_copy ∈ am_bw := am_in (am_r2 _ (List.mem_of_getElem? (i := 71) rfl)) rfl
theorem aw_2_72 : Cond.instanceMethod yX2_copy ∈ am_bw := am_in (am_r2 _ (List.mem_of_getElem? (i := 72) rfl)) rfl
theorem aw_2_73 : Cond.selects RX2 yX2_copy yX2_copy ∈ am_bw := am_in (am_r2 _ (List.mem_of_getElem? (i := 73) rfl)) rfl
theorem aw_2_74 : Cond.code yX2_copy cX2_copy 2 none ∈ am_bw := am_in (am_r2 _ (List.mem_of_getElem? (i := 74) rfl)) rfl
theorem aw_2_75 : Cond.methodLink RX2 40 arraycopyName ∈ am_bw := am_in (am_r2 _ (List.mem_of_getElem? (i := 75) rfl)) rfl
theorem aw_2_76 : Cond.static arraycopyName ∈ am_bw := am_in (am_r2 _ (List.mem_of_getElem? (i := 76) rfl)) rfl
theorem aw_2_77 : Cond.native arraycopyName ∈ am_bw := am_in (am_r2 _ (List.mem_of_getElem? (i := 77) rfl)) rfl
theorem aw_2_78 : Cond.fieldLink RX6 10 "LampsOfDissent" "text" "LLampsOfDissent$Text;" ∈ am_bw := am_in (am_r2 _ (List.mem_of_getElem? (i := 78) rfl)) rfl
theorem aw_2_79 : Cond.fieldLink RX6 19 "LampsOfDissent" "city" "LLampsOfDissent$City;" ∈ am_bw := am_in (am_r2 _ (List.mem_of_getElem? (i := 79) rfl)) rfl
theorem aw_2_80 : Cond.fieldLink RX6 23 "LampsOfDissent" "draft" "LLampsOfDissent$City;" ∈ am_bw := am_in (am_r2 _ (List.mem_of_getElem? (i := 80) rfl)) rfl
theorem aw_2_81 : Cond.fieldLink RX6 29 "LampsOfDissent" "now" "LLampsOfDissent$Moment;" ∈ am_bw := am_in (am_r2 _ (List.mem_of_getElem? (i := 81) rfl)) rfl
theorem aw_2_82 : Cond.fieldLink RX6 33 "LampsOfDissent" "later" "LLampsOfDissent$Moment;" ∈ am_bw := am_in (am_r2 _ (List.mem_of_getElem? (i := 82) rfl)) rfl
theorem aw_2_83 : Cond.fieldLink RX6 39 "LampsOfDissent" "past" "LLampsOfDissent$Past;" ∈ am_bw := am_in (am_r2 _ (List.mem_of_getElem? (i := 83) rfl)) rfl
theorem aw_2_84 : Cond.fieldLink RX6 43 "LampsOfDissent" "kept" "[LLampsOfDissent$Moment;" ∈ am_bw := am_in (am_r2 _ (List.mem_of_getElem? (i := 84) rfl)) rfl
theorem aw_2_85 : Cond.fieldLink RX6 265 "LampsOfDissent" "keptCount" "I" ∈ am_bw := am_in (am_r2 _ (List.mem_of_getElem? (i := 85) rfl)) rfl
theorem aw_2_86 : Cond.fieldLink RX6 47 "LampsOfDissent" "seenHouse" "[I" ∈ am_bw := am_in (am_r2 _ (List.mem_of_getElem? (i := 86) rfl)) rfl
theorem aw_2_87 : Cond.fieldLink RX6 51 "LampsOfDissent" "seenLight" "[I" ∈ am_bw := am_in (am_r2 _ (List.mem_of_getElem? (i := 87) rfl)) rfl
theorem aw_2_88 : Cond.fieldLink RX6 221 "LampsOfDissent" "seenCount" "I" ∈ am_bw := am_in (am_r2 _ (List.mem_of_getElem? (i := 88) rfl)) rfl
theorem aw_2_89 : Cond.fieldLink RX6 57 "LampsOfDissent" "homeSearch" "LLampsOfDissent$HomeSearch;" ∈ am_bw := am_in (am_r2 _ (List.mem_of_getElem? (i := 89) rfl)) rfl
theorem aw_2_90 : Cond.fieldLink RX6 64 "LampsOfDissent" "talkSearch" "LLampsOfDissent$TalkSearch;" ∈ am_bw := am_in (am_r2 _ (List.mem_of_getElem? (i := 90) rfl)) rfl
theorem aw_2_91 : Cond.fieldLink RX6 68 "LampsOfDissent" "spouse" "[I" ∈ am_bw := am_in (am_r2 _ (List.mem_of_getElem? (i := 91) rfl)) rfl
theorem aw_2_92 : Cond.laysFinal RX6 "LampsOfDissent" "text" "LLampsOfDissent$Text;" ∈ am_bw := am_in (am_r2 _ (List.mem_of_getElem? (i := 92) rfl)) rfl
theorem aw_2_94 : Cond.lays RX6 "LampsOfDissent" "city" "LLampsOfDissent$City;" ∈ am_bw := am_in (am_r2 _ (List.mem_of_getElem? (i := 94) rfl)) rfl
theorem aw_2_96 : Cond.lays RX6 "LampsOfDissent" "draft" "LLampsOfDissent$City;" ∈ am_bw := am_in (am_r2 _ (List.mem_of_getElem? (i := 96) rfl)) rfl
theorem aw_2_98 : Cond.laysFinal RX6 "LampsOfDissent" "now" "LLampsOfDissent$Moment;" ∈ am_bw := am_in (am_r2 _ (List.mem_of_getElem? (i := 98) rfl)) rfl
theorem aw_3_0 : Cond.instanceMethod yX6_undo ∈ am_bw := am_in (am_r3 _ (List.mem_of_getElem? (i := 0) rfl)) rfl
theorem aw_3_1 : Cond.selects RX6 yX6_undo yX6_undo ∈ am_bw := am_in (am_r3 _ (List.mem_of_getElem? (i := 1) rfl)) rfl
theorem aw_3_10 : Cond.code yX6_light cX6_light 4 (some .int) ∈ am_bw := am_in (am_r3 _ (List.mem_of_getElem? (i := 10) rfl)) rfl
theorem aw_3_101 : Cond.instanceMethod yX6_forget ∈ am_bw := am_in (am_r3 _ (List.mem_of_getElem? (i := 101) rfl)) rfl
theorem aw_3_102 : Cond.selects RX6 yX6_forget yX6_forget ∈ am_bw := am_in (am_r3 _ (List.mem_of_getElem? (i := 102) rfl)) rfl
theorem aw_3_103 : Cond.code yX6_forget cX6_forget 2 (some .int) ∈ am_bw := am_in (am_r3 _ (List.mem_of_getElem? (i := 103) rfl)) rfl
theorem aw_3_105 : Cond.instanceMethod yX6_may ∈ am_bw := am_in (am_r3 _ (List.mem_of_getElem? (i := 105) rfl)) rfl
theorem aw_3_106 : Cond.selects RX6 yX6_may yX6_may ∈ am_bw := am_in (am_r3 _ (List.mem_of_getElem? (i := 106) rfl)) rfl
theorem aw_3_107 : Cond.code yX6_may cX6_may 6 (some .int) ∈ am_bw := am_in (am_r3 _ (List.mem_of_getElem? (i := 107) rfl)) rfl
theorem aw_3_108 : Cond.methodLink RX6 224 yX6_agreesWithSeen ∈ am_bw := am_in (am_r3 _ (List.mem_of_getElem? (i := 108) rfl)) rfl
theorem aw_3_11 : Cond.methodLink RX6 164 yX6_lookAhead ∈ am_bw := am_in (am_r3 _ (List.mem_of_getElem? (i := 11) rfl)) rfl
theorem aw_3_110 : Cond.instanceMethod yX6_agreesWithSeen ∈ am_bw := am_in (am_r3 _ (List.mem_of_getElem? (i := 110) rfl)) rfl
theorem aw_3_111 : Cond.code yX6_agreesWithSeen cX6_agreesWithSeen 4 (some .boolean) ∈ am_bw := am_in (am_r3 _ (List.mem_of_getElem? (i := 111) rfl)) rfl
theorem aw_3_113 : Cond.instanceMethod yX6_smokes ∈ am_bw := am_in (am_r3 _ (List.mem_of_getElem? (i := 113) rfl)) rfl
theorem aw_3_114 : Cond.selects RX6 yX6_smokes yX6_smokes ∈ am_bw := am_in (am_r3 _ (List.mem_of_getElem? (i := 114) rfl)) rfl
theorem aw_3_115 : Cond.code yX6_smokes cX6_smokes 4 (some .int) ∈ am_bw := am_in (am_r3 _ (List.mem_of_getElem? (i := 115) rfl)) rfl
theorem aw_3_116 : Cond.methodLink RX6 227 yX2_hasSmoke ∈ am_bw := am_in (am_r3 _ (List.mem_of_getElem? (i := 116) rfl)) rfl
theorem aw_3_117 : Cond.instanceMethod yX2_hasSmoke ∈ am_bw := am_in (am_r3 _ (List.mem_of_getElem? (i := 117) rfl)) rfl
theorem aw_3_118 : Cond.selects RX2 yX2_hasSmoke yX2_hasSmoke ∈ am_bw := am_in (am_r3 _ (List.mem_of_getElem? (i := 118) rfl)) rfl
theorem aw_3_119 : Cond.code yX2_hasSmoke cX2_hasSmoke 5 (some .boolean) ∈ am_bw := am_in (am_r3 _ (List.mem_of_getElem? (i := 119) rfl)) rfl
theorem aw_3_121 : Cond.instanceMethod yX6_married ∈ am_bw := am_in (am_r3 _ (List.mem_of_getElem? (i := 121) rfl)) rfl
theorem aw_3_122 : Cond.selects RX6 yX6_married yX6_married ∈ am_bw := am_in (am_r3 _ (List.mem_of_getElem? (i := 122) rfl)) rfl
theorem aw_3_123 : Cond.code yX6_married cX6_married 3 (some .int) ∈ am_bw := am_in (am_r3 _ (List.mem_of_getElem? (i := 123) rfl)) rfl
theorem aw_3_124 : Cond.methodLink RX6 230 yJ7_fill_53178 ∈ am_bw := am_in (am_r3 _ (List.mem_of_getElem? (i := 124) rfl)) rfl
theorem aw_3_125 : Cond.methodLink RX6 236 yX6_marryMostUnlike ∈ am_bw := am_in (am_r3 _ (List.mem_of_getElem? (i := 125) rfl)) rfl
theorem aw_3_127 : Cond.instanceMethod yX6_marryMostUnlike ∈ am_bw := am_in (am_r3 _ (List.mem_of_getElem? (i := 127) rfl)) rfl
theorem aw_3_128 : Cond.code yX6_marryMostUnlike cX6_marryMostUnlike 7 none ∈ am_bw := am_in (am_r3 _ (List.mem_of_getElem? (i := 128) rfl)) rfl
theorem aw_3_129 : Cond.methodLink RX6 246 yJ6_bitCount_0f7a4 ∈ am_bw := am_in (am_r3 _ (List.mem_of_getElem? (i := 129) rfl)) rfl
theorem aw_3_13 : Cond.instanceMethod yX6_lookAhead ∈ am_bw := am_in (am_r3 _ (List.mem_of_getElem? (i := 13) rfl)) rfl
theorem aw_3_131 : Cond.instanceMethod yX6_falseBy ∈ am_bw := am_in (am_r3 _ (List.mem_of_getElem? (i := 131) rfl)) rfl
theorem aw_3_132 : Cond.selects RX6 yX6_falseBy yX6_falseBy ∈ am_bw := am_in (am_r3 _ (List.mem_of_getElem? (i := 132) rfl)) rfl
theorem aw_3_133 : Cond.code yX6_falseBy cX6_falseBy 6 (some .int) ∈ am_bw := am_in (am_r3 _ (List.mem_of_getElem? (i := 133) rfl)) rfl
theorem aw_3_134 : Cond.methodLink RX6 239 yX6_smokingChances ∈ am_bw := am_in (am_r3 _ (List.mem_of_getElem? (i := 134) rfl)) rfl
theorem aw_3_136 : Cond.instanceMethod yX6_smokingChances ∈ am_bw := am_in (am_r3 _ (List.mem_of_getElem? (i := 136) rfl)) rfl
theorem aw_3_137 : Cond.code yX6_smokingChances cX6_smokingChances 9 (some .int) ∈ am_bw := am_in (am_r3 _ (List.mem_of_getElem? (i := 137) rfl)) rfl
theorem aw_3_138 : Cond.methodLink RX6 242 yX2_residentsOf ∈ am_bw := am_in (am_r3 _ (List.mem_of_getElem? (i := 138) rfl)) rfl
theorem aw_3_139 : Cond.instanceMethod yX2_residentsOf ∈ am_bw := am_in (am_r3 _ (List.mem_of_getElem? (i := 139) rfl)) rfl
theorem aw_3_14 : Cond.code yX6_lookAhead cX6_lookAhead 3 none ∈ am_bw := am_in (am_r3 _ (List.mem_of_getElem? (i := 14) rfl)) rfl
theorem aw_3_140 : Cond.selects RX2 yX2_residentsOf yX2_residentsOf ∈ am_bw := am_in (am_r3 _ (List.mem_of_getElem? (i := 140) rfl)) rfl
theorem aw_3_141 : Cond.code yX2_residentsOf cX2_residentsOf 4 (some .int) ∈ am_bw := am_in (am_r3 _ (List.mem_of_getElem? (i := 141) rfl)) rfl
theorem aw_3_142 : Cond.methodLink RX6 274 yX2_drawKinds ∈ am_bw := am_in (am_r3 _ (List.mem_of_getElem? (i := 142) rfl)) rfl
theorem aw_3_143 : Cond.instanceMethod yX2_drawKinds ∈ am_bw := am_in (am_r3 _ (List.mem_of_getElem? (i := 143) rfl)) rfl
theorem aw_3_144 : Cond.selects RX2 yX2_drawKinds yX2_drawKinds ∈ am_bw := am_in (am_r3 _ (List.mem_of_getElem? (i := 144) rfl)) rfl
theorem aw_3_145 : Cond.code yX2_drawKinds cX2_drawKinds 5 none ∈ am_bw := am_in (am_r3 _ (List.mem_of_getElem? (i := 145) rfl)) rfl
theorem aw_3_146 : Cond.methodLink RX6 251 yX6_power ∈ am_bw := am_in (am_r3 _ (List.mem_of_getElem? (i := 146) rfl)) rfl
theorem aw_3_147 : Cond.static yX6_power ∈ am_bw := am_in (am_r3 _ (List.mem_of_getElem? (i := 147) rfl)) rfl
theorem aw_3_148 : Cond.code yX6_power cX6_power 4 (some .int) ∈ am_bw := am_in (am_r3 _ (List.mem_of_getElem? (i := 148) rfl)) rfl
theorem aw_3_149 : Cond.methodLink RX6 254 yX6_inLowestTerms ∈ am_bw := am_in (am_r3 _ (List.mem_of_getElem? (i := 149) rfl)) rfl
theorem aw_3_15 : Cond.methodLink RX6 167 yX0_lightOfAll ∈ am_bw := am_in (am_r3 _ (List.mem_of_getElem? (i := 15) rfl)) rfl
theorem aw_3_150 : Cond.static yX6_inLowestTerms ∈ am_bw := am_in (am_r3 _ (List.mem_of_getElem? (i := 150) rfl)) rfl
theorem aw_3_151 : Cond.code yX6_inLowestTerms cX6_inLowestTerms 6 (some .int) ∈ am_bw := am_in (am_r3 _ (List.mem_of_getElem? (i := 151) rfl)) rfl
theorem aw_3_153 : Cond.instanceMethod yX6_winter ∈ am_bw := am_in (am_r3 _ (List.mem_of_getElem? (i := 153) rfl)) rfl
theorem aw_3_154 : Cond.selects RX6 yX6_winter yX6_winter ∈ am_bw := am_in (am_r3 _ (List.mem_of_getElem? (i := 154) rfl)) rfl
theorem aw_3_155 : Cond.code yX6_winter cX6_winter 8 (some .int) ∈ am_bw := am_in (am_r3 _ (List.mem_of_getElem? (i := 155) rfl)) rfl
theorem aw_3_156 : Cond.methodLink RX6 258 yX6_drawOf ∈ am_bw := am_in (am_r3 _ (List.mem_of_getElem? (i := 156) rfl)) rfl
theorem aw_3_157 : Cond.static yX6_drawOf ∈ am_bw := am_in (am_r3 _ (List.mem_of_getElem? (i := 157) rfl)) rfl
theorem aw_3_158 : Cond.code yX6_drawOf cX6_drawOf 4 (some .int) ∈ am_bw := am_in (am_r3 _ (List.mem_of_getElem? (i := 158) rfl)) rfl
theorem aw_3_159 : Cond.constantLong RX6 277 (7919) ∈ am_bw := am_in (am_r3 _ (List.mem_of_getElem? (i := 159) rfl)) rfl
theorem aw_3_16 : Cond.instanceMethod yX0_lightOfAll ∈ am_bw := am_in (am_r3 _ (List.mem_of_getElem? (i := 16) rfl)) rfl
theorem aw_3_160 : Cond.constantLong RX6 279 (6151) ∈ am_bw := am_in (am_r3 _ (List.mem_of_getElem? (i := 160) rfl)) rfl
theorem aw_3_161 : Cond.constantLong RX6 281 (65521) ∈ am_bw := am_in (am_r3 _ (List.mem_of_getElem? (i := 161) rfl)) rfl
theorem aw_3_162 : Cond.constantLong RX6 283 (2) ∈ am_bw := am_in (am_r3 _ (List.mem_of_getElem? (i := 162) rfl)) rfl
theorem aw_3_163 : Cond.methodLink RX6 261 yX6_alterByDraw ∈ am_bw := am_in (am_r3 _ (List.mem_of_getElem? (i := 163) rfl)) rfl
theorem aw_3_165 : Cond.instanceMethod yX6_alterByDraw ∈ am_bw := am_in (am_r3 _ (List.mem_of_getElem? (i := 165) rfl)) rfl
theorem aw_3_166 : Cond.code yX6_alterByDraw cX6_alterByDraw 4 none ∈ am_bw := am_in (am_r3 _ (List.mem_of_getElem? (i := 166) rfl)) rfl
theorem aw_3_168 : Cond.instanceMethod yX6_keep ∈ am_bw := am_in (am_r3 _ (List.mem_of_getElem? (i := 168) rfl)) rfl
theorem aw_3_169 : Cond.selects RX6 yX6_keep yX6_keep ∈ am_bw := am_in (am_r3 _ (List.mem_of_getElem? (i := 169) rfl)) rfl
theorem aw_3_17 : Cond.selects RX0 yX0_lightOfAll yX0_lightOfAll ∈ am_bw := am_in (am_r3 _ (List.mem_of_getElem? (i := 17) rfl)) rfl
theorem aw_3_170 : Cond.code yX6_keep cX6_keep 1 (some .int) ∈ am_bw := am_in (am_r3 _ (List.mem_of_getElem? (i := 170) rfl)) rfl
theorem aw_3_172 : Cond.instanceMethod yX6_back ∈ am_bw := am_in (am_r3 _ (List.mem_of_getElem? (i := 172) rfl)) rfl
theorem aw_3_173 : Cond.selects RX6 yX6_back yX6_back ∈ am_bw := am_in (am_r3 _ (List.mem_of_getElem? (i := 173) rfl)) rfl
theorem aw_3_174 : Cond.code yX6_back cX6_back 1 (some .int) ∈ am_bw := am_in (am_r3 _ (List.mem_of_getElem? (i := 174) rfl)) rfl
theorem aw_3_176 : Cond.instanceMethod yX6_count ∈ am_bw := am_in (am_r3 _ (List.mem_of_getElem? (i := 176) rfl)) rfl
theorem aw_3_177 : Cond.selects RX6 yX6_count yX6_count ∈ am_bw := am_in (am_r3 _ (List.mem_of_getElem? (i := 177) rfl)) rfl
theorem aw_3_178 : Cond.code yX6_count cX6_count 2 (some .int) ∈ am_bw := am_in (am_r3 _ (List.mem_of_getElem? (i := 178) rfl)) rfl
theorem aw_3_18 : Cond.code yX0_lightOfAll cX0_lightOfAll 5 (some .int) ∈ am_bw := am_in (am_r3 _ (List.mem_of_getElem? (i := 18) rfl)) rfl
theorem aw_3_180 : Cond.instantiable RX7 23 ∈ am_bw := am_in (am_r3 _ (List.mem_of_getElem? (i := 180) rfl)) rfl
theorem aw_3_182 : Cond.instanceMethod yX7_init ∈ am_bw := am_in (am_r3 _ (List.mem_of_getElem? (i := 182) rfl)) rfl
theorem aw_3_183 : Cond.code yX7_init cX7_init 1 none ∈ am_bw := am_in (am_r3 _ (List.mem_of_getElem? (i := 183) rfl)) rfl
theorem aw_3_184 : Cond.methodLink RX7 1 objectInit ∈ am_bw := am_in (am_r3 _ (List.mem_of_getElem? (i := 184) rfl)) rfl
theorem aw_3_185 : Cond.methodLink RX7 49 yX7_lives ∈ am_bw := am_in (am_r3 _ (List.mem_of_getElem? (i := 185) rfl)) rfl
theorem aw_3_187 : Cond.instanceMethod yX7_lives ∈ am_bw := am_in (am_r3 _ (List.mem_of_getElem? (i := 187) rfl)) rfl
theorem aw_3_188 : Cond.code yX7_lives cX7_lives 6 none ∈ am_bw := am_in (am_r3 _ (List.mem_of_getElem? (i := 188) rfl)) rfl
theorem aw_3_189 : Cond.methodLink RX7 53 yX7_works ∈ am_bw := am_in (am_r3 _ (List.mem_of_getElem? (i := 189) rfl)) rfl
theorem aw_3_19 : Cond.methodLink RX6 170 yX2_lightOf ∈ am_bw := am_in (am_r3 _ (List.mem_of_getElem? (i := 19) rfl)) rfl
theorem aw_3_191 : Cond.instanceMethod yX7_works ∈ am_bw := am_in (am_r3 _ (List.mem_of_getElem? (i := 191) rfl)) rfl
theorem aw_3_192 : Cond.code yX7_works cX7_works 4 none ∈ am_bw := am_in (am_r3 _ (List.mem_of_getElem? (i := 192) rfl)) rfl
theorem aw_3_193 : Cond.fieldLink RX7 7 "LampsOfDissentModel" "told" "[I" ∈ am_bw := am_in (am_r3 _ (List.mem_of_getElem? (i := 193) rfl)) rfl
theorem aw_3_194 : Cond.fieldLink RX7 13 "LampsOfDissentModel" "now" "[I" ∈ am_bw := am_in (am_r3 _ (List.mem_of_getElem? (i := 194) rfl)) rfl
theorem aw_3_195 : Cond.fieldLink RX7 16 "LampsOfDissentModel" "text" "[I" ∈ am_bw := am_in (am_r3 _ (List.mem_of_getElem? (i := 195) rfl)) rfl
theorem aw_3_196 : Cond.fieldLink RX7 67 "LampsOfDissentModel" "letters" "I" ∈ am_bw := am_in (am_r3 _ (List.mem_of_getElem? (i := 196) rfl)) rfl
theorem aw_3_197 : Cond.fieldLink RX7 71 "LampsOfDissentModel" "at" "I" ∈ am_bw := am_in (am_r3 _ (List.mem_of_getElem? (i := 197) rfl)) rfl
theorem aw_3_198 : Cond.fieldLink RX7 19 "LampsOfDissentModel" "readTold" "[I" ∈ am_bw := am_in (am_r3 _ (List.mem_of_getElem? (i := 198) rfl)) rfl
theorem aw_3_199 : Cond.fieldLink RX7 22 "LampsOfDissentModel" "readNow" "[I" ∈ am_bw := am_in (am_r3 _ (List.mem_of_getElem? (i := 199) rfl)) rfl
theorem aw_3_2 : Cond.code yX6_undo cX6_undo 1 (some .int) ∈ am_bw := am_in (am_r3 _ (List.mem_of_getElem? (i := 2) rfl)) rfl
theorem aw_3_200 : Cond.fieldLink RX7 88 "LampsOfDissentModel" "isMore" "Z" ∈ am_bw := am_in (am_r3 _ (List.mem_of_getElem? (i := 200) rfl)) rfl
theorem aw_3_201 : Cond.fieldLink RX7 82 "LampsOfDissentModel" "number" "I" ∈ am_bw := am_in (am_r3 _ (List.mem_of_getElem? (i := 201) rfl)) rfl
theorem aw_3_202 : Cond.fieldLink RX7 25 "LampsOfDissentModel" "lights" "[I" ∈ am_bw := am_in (am_r3 _ (List.mem_of_getElem? (i := 202) rfl)) rfl
theorem aw_3_203 : Cond.fieldLink RX7 134 "LampsOfDissentModel" "smoke" "I" ∈ am_bw := am_in (am_r3 _ (List.mem_of_getElem? (i := 203) rfl)) rfl
theorem aw_3_204 : Cond.fieldLink RX7 28 "LampsOfDissentModel" "with" "[I" ∈ am_bw := am_in (am_r3 _ (List.mem_of_getElem? (i := 204) rfl)) rfl
theorem aw_3_205 : Cond.fieldLink RX7 31 "LampsOfDissentModel" "undone" "[I" ∈ am_bw := am_in (am_r3 _ (List.mem_of_getElem? (i := 205) rfl)) rfl
theorem aw_3_206 : Cond.fieldLink RX7 111 "LampsOfDissentModel" "undos" "I" ∈ am_bw := am_in (am_r3 _ (List.mem_of_getElem? (i := 206) rfl)) rfl
theorem aw_3_207 : Cond.fieldLink RX7 34 "LampsOfDissentModel" "aside" "[I" ∈ am_bw := am_in (am_r3 _ (List.mem_of_getElem? (i := 207) rfl)) rfl
theorem aw_3_208 : Cond.fieldLink RX7 37 "LampsOfDissentModel" "homes" "[I" ∈ am_bw := am_in (am_r3 _ (List.mem_of_getElem? (i := 208) rfl)) rfl
theorem aw_3_209 : Cond.fieldLink RX7 194 "LampsOfDissentModel" "homesLit" "I" ∈ am_bw := am_in (am_r3 _ (List.mem_of_getElem? (i := 209) rfl)) rfl
theorem aw_3_21 : Cond.instanceMethod yX6_lit ∈ am_bw := am_in (am_r3 _ (List.mem_of_getElem? (i := 21) rfl)) rfl
theorem aw_3_210 : Cond.fieldLink RX7 200 "LampsOfDissentModel" "homesMoved" "I" ∈ am_bw := am_in (am_r3 _ (List.mem_of_getElem? (i := 210) rfl)) rfl
theorem aw_3_211 : Cond.fieldLink RX7 40 "LampsOfDissentModel" "seenHouse" "[I" ∈ am_bw := am_in (am_r3 _ (List.mem_of_getElem? (i := 211) rfl)) rfl
theorem aw_3_212 : Cond.fieldLink RX7 43 "LampsOfDissentModel" "seenLight" "[I" ∈ am_bw := am_in (am_r3 _ (List.mem_of_getElem? (i := 212) rfl)) rfl
theorem aw_3_213 : Cond.fieldLink RX7 108 "LampsOfDissentModel" "seens" "I" ∈ am_bw := am_in (am_r3 _ (List.mem_of_getElem? (i := 213) rfl)) rfl
theorem aw_3_214 : Cond.fieldLink RX7 46 "LampsOfDissentModel" "kept" "[I" ∈ am_bw := am_in (am_r3 _ (List.mem_of_getElem? (i := 214) rfl)) rfl
theorem aw_3_215 : Cond.fieldLink RX7 114 "LampsOfDissentModel" "keeps" "I" ∈ am_bw := am_in (am_r3 _ (List.mem_of_getElem? (i := 215) rfl)) rfl
theorem aw_3_216 : Cond.laysFinal RX7 "LampsOfDissentModel" "told" "[I" ∈ am_bw := am_in (am_r3 _ (List.mem_of_getElem? (i := 216) rfl)) rfl
theorem aw_3_218 : Cond.laysFinal RX7 "LampsOfDissentModel" "now" "[I" ∈ am_bw := am_in (am_r3 _ (List.mem_of_getElem? (i := 218) rfl)) rfl
theorem aw_3_22 : Cond.selects RX6 yX6_lit yX6_lit ∈ am_bw := am_in (am_r3 _ (List.mem_of_getElem? (i := 22) rfl)) rfl
theorem aw_3_220 : Cond.laysFinal RX7 "LampsOfDissentModel" "text" "[I" ∈ am_bw := am_in (am_r3 _ (List.mem_of_getElem? (i := 220) rfl)) rfl
theorem aw_3_222 : Cond.lays RX7 "LampsOfDissentModel" "letters" "I" ∈ am_bw := am_in (am_r3 _ (List.mem_of_getElem? (i := 222) rfl)) rfl
theorem aw_3_224 : Cond.lays RX7 "LampsOfDissentModel" "at" "I" ∈ am_bw := am_in (am_r3 _ (List.mem_of_getElem? (i := 224) rfl)) rfl
theorem aw_3_226 : Cond.laysFinal RX7 "LampsOfDissentModel" "readTold" "[I" ∈ am_bw := am_in (am_r3 _ (List.mem_of_getElem? (i := 226) rfl)) rfl
theorem aw_3_228 : Cond.laysFinal RX7 "LampsOfDissentModel" "readNow" "[I" ∈ am_bw := am_in (am_r3 _ (List.mem_of_getElem? (i := 228) rfl)) rfl
theorem aw_3_23 : Cond.code yX6_lit cX6_lit 2 (some .int) ∈ am_bw := am_in (am_r3 _ (List.mem_of_getElem? (i := 23) rfl)) rfl
theorem aw_3_230 : Cond.lays RX7 "LampsOfDissentModel" "isMore" "Z" ∈ am_bw := am_in (am_r3 _ (List.mem_of_getElem? (i := 230) rfl)) rfl
theorem aw_3_232 : Cond.lays RX7 "LampsOfDissentModel" "number" "I" ∈ am_bw := am_in (am_r3 _ (List.mem_of_getElem? (i := 232) rfl)) rfl
theorem aw_3_234 : Cond.laysFinal RX7 "LampsOfDissentModel" "lights" "[I" ∈ am_bw := am_in (am_r3 _ (List.mem_of_getElem? (i := 234) rfl)) rfl
theorem aw_3_236 : Cond.lays RX7 "LampsOfDissentModel" "smoke" "I" ∈ am_bw := am_in (am_r3 _ (List.mem_of_getElem? (i := 236) rfl)) rfl
theorem aw_3_238 : Cond.laysFinal RX7 "LampsOfDissentModel" "with" "[I" ∈ am_bw := am_in (am_r3 _ (List.mem_of_getElem? (i := 238) rfl)) rfl
theorem aw_3_25 : Cond.instanceMethod yX6_reach ∈ am_bw := am_in (am_r3 _ (List.mem_of_getElem? (i := 25) rfl)) rfl
theorem aw_3_26 : Cond.selects RX6 yX6_reach yX6_reach ∈ am_bw := am_in (am_r3 _ (List.mem_of_getElem? (i := 26) rfl)) rfl
theorem aw_3_27 : Cond.code yX6_reach cX6_reach 5 (some .int) ∈ am_bw := am_in (am_r3 _ (List.mem_of_getElem? (i := 27) rfl)) rfl
theorem aw_3_28 : Cond.methodLink RX6 173 yX0_darkHouses ∈ am_bw := am_in (am_r3 _ (List.mem_of_getElem? (i := 28) rfl)) rfl
theorem aw_3_29 : Cond.instanceMethod yX0_darkHouses ∈ am_bw := am_in (am_r3 _ (List.mem_of_getElem? (i := 29) rfl)) rfl
theorem aw_3_3 : Cond.methodLink RX6 157 yX3_restore ∈ am_bw := am_in (am_r3 _ (List.mem_of_getElem? (i := 3) rfl)) rfl
theorem aw_3_30 : Cond.selects RX0 yX0_darkHouses yX0_darkHouses ∈ am_bw := am_in (am_r3 _ (List.mem_of_getElem? (i := 30) rfl)) rfl
theorem aw_3_31 : Cond.code yX0_darkHouses cX0_darkHouses 5 (some .int) ∈ am_bw := am_in (am_r3 _ (List.mem_of_getElem? (i := 31) rfl)) rfl
theorem aw_3_33 : Cond.instanceMethod yX6_first ∈ am_bw := am_in (am_r3 _ (List.mem_of_getElem? (i := 33) rfl)) rfl
theorem aw_3_34 : Cond.selects RX6 yX6_first yX6_first ∈ am_bw := am_in (am_r3 _ (List.mem_of_getElem? (i := 34) rfl)) rfl
theorem aw_3_35 : Cond.code yX6_first cX6_first 4 (some .int) ∈ am_bw := am_in (am_r3 _ (List.mem_of_getElem? (i := 35) rfl)) rfl
theorem aw_3_37 : Cond.instanceMethod yX6_homes ∈ am_bw := am_in (am_r3 _ (List.mem_of_getElem? (i := 37) rfl)) rfl
theorem aw_3_38 : Cond.selects RX6 yX6_homes yX6_homes ∈ am_bw := am_in (am_r3 _ (List.mem_of_getElem? (i := 38) rfl)) rfl
theorem aw_3_39 : Cond.code yX6_homes cX6_homes 2 (some .int) ∈ am_bw := am_in (am_r3 _ (List.mem_of_getElem? (i := 39) rfl)) rfl
theorem aw_3_4 : Cond.instanceMethod yX3_restore ∈ am_bw := am_in (am_r3 _ (List.mem_of_getElem? (i := 4) rfl)) rfl
theorem aw_3_40 : Cond.methodLink RX6 182 yX1_search ∈ am_bw := am_in (am_r3 _ (List.mem_of_getElem? (i := 40) rfl)) rfl
theorem aw_3_41 : Cond.instanceMethod yX1_search ∈ am_bw := am_in (am_r3 _ (List.mem_of_getElem? (i := 41) rfl)) rfl
theorem aw_3_42 : Cond.selects RX1 yX1_search yX1_search ∈ am_bw := am_in (am_r3 _ (List.mem_of_getElem? (i := 42) rfl)) rfl
theorem aw_3_43 : Cond.code yX1_search cX1_search 6 none ∈ am_bw := am_in (am_r3 _ (List.mem_of_getElem? (i := 43) rfl)) rfl
theorem aw_3_44 : Cond.methodLink RX1 24 yX0_talkedOf ∈ am_bw := am_in (am_r3 _ (List.mem_of_getElem? (i := 44) rfl)) rfl
theorem aw_3_45 : Cond.methodLink RX1 30 yX2_lightOfTwo ∈ am_bw := am_in (am_r3 _ (List.mem_of_getElem? (i := 45) rfl)) rfl
theorem aw_3_46 : Cond.methodLink RX1 35 yJ7_fill_53178 ∈ am_bw := am_in (am_r3 _ (List.mem_of_getElem? (i := 46) rfl)) rfl
theorem aw_3_47 : Cond.methodLink RX1 48 yX1_settle ∈ am_bw := am_in (am_r3 _ (List.mem_of_getElem? (i := 47) rfl)) rfl
theorem aw_3_48 : Cond.static yX1_settle ∈ am_bw := am_in (am_r3 _ (List.mem_of_getElem? (i := 48) rfl)) rfl
theorem aw_3_49 : Cond.code yX1_settle cX1_settle 9 none ∈ am_bw := am_in (am_r3 _ (List.mem_of_getElem? (i := 49) rfl)) rfl
theorem aw_3_5 : Cond.selects RX3 yX3_restore yX3_restore ∈ am_bw := am_in (am_r3 _ (List.mem_of_getElem? (i := 5) rfl)) rfl
theorem aw_3_50 : Cond.methodLink RX1 55 yX1_weigh ∈ am_bw := am_in (am_r3 _ (List.mem_of_getElem? (i := 50) rfl)) rfl
theorem aw_3_52 : Cond.instanceMethod yX1_weigh ∈ am_bw := am_in (am_r3 _ (List.mem_of_getElem? (i := 52) rfl)) rfl
theorem aw_3_53 : Cond.code yX1_weigh cX1_weigh 6 none ∈ am_bw := am_in (am_r3 _ (List.mem_of_getElem? (i := 53) rfl)) rfl
theorem aw_3_54 : Cond.methodLink RX1 78 arraycopyName ∈ am_bw := am_in (am_r3 _ (List.mem_of_getElem? (i := 54) rfl)) rfl
theorem aw_3_55 : Cond.methodLink RX1 68 yX1_lightAdded ∈ am_bw := am_in (am_r3 _ (List.mem_of_getElem? (i := 55) rfl)) rfl
theorem aw_3_57 : Cond.instanceMethod yX1_lightAdded ∈ am_bw := am_in (am_r3 _ (List.mem_of_getElem? (i := 57) rfl)) rfl
theorem aw_3_58 : Cond.code yX1_lightAdded cX1_lightAdded 5 (some .int) ∈ am_bw := am_in (am_r3 _ (List.mem_of_getElem? (i := 58) rfl)) rfl
theorem aw_3_6 : Cond.code yX3_restore cX3_restore 2 (some .boolean) ∈ am_bw := am_in (am_r3 _ (List.mem_of_getElem? (i := 6) rfl)) rfl
theorem aw_3_60 : Cond.instanceMethod yX6_apart ∈ am_bw := am_in (am_r3 _ (List.mem_of_getElem? (i := 60) rfl)) rfl
theorem aw_3_61 : Cond.selects RX6 yX6_apart yX6_apart ∈ am_bw := am_in (am_r3 _ (List.mem_of_getElem? (i := 61) rfl)) rfl
theorem aw_3_62 : Cond.code yX6_apart cX6_apart 11 (some .int) ∈ am_bw := am_in (am_r3 _ (List.mem_of_getElem? (i := 62) rfl)) rfl
theorem aw_3_63 : Cond.methodLink RX6 195 yX2_together ∈ am_bw := am_in (am_r3 _ (List.mem_of_getElem? (i := 63) rfl)) rfl
theorem aw_3_64 : Cond.methodLink RX6 199 yJ9_min_7cf53 ∈ am_bw := am_in (am_r3 _ (List.mem_of_getElem? (i := 64) rfl)) rfl
theorem aw_3_65 : Cond.methodLink RX6 204 yJ9_max_7cf53 ∈ am_bw := am_in (am_r3 _ (List.mem_of_getElem? (i := 65) rfl)) rfl
theorem aw_3_66 : Cond.methodLink RX6 207 yX6_lightIfMoved ∈ am_bw := am_in (am_r3 _ (List.mem_of_getElem? (i := 66) rfl)) rfl
theorem aw_3_68 : Cond.instanceMethod yX6_lightIfMoved ∈ am_bw := am_in (am_r3 _ (List.mem_of_getElem? (i := 68) rfl)) rfl
theorem aw_3_69 : Cond.code yX6_lightIfMoved cX6_lightIfMoved 3 (some .int) ∈ am_bw := am_in (am_r3 _ (List.mem_of_getElem? (i := 69) rfl)) rfl
theorem aw_3_71 : Cond.instanceMethod yX6_talk ∈ am_bw := am_in (am_r3 _ (List.mem_of_getElem? (i := 71) rfl)) rfl
theorem aw_3_72 : Cond.selects RX6 yX6_talk yX6_talk ∈ am_bw := am_in (am_r3 _ (List.mem_of_getElem? (i := 72) rfl)) rfl
theorem aw_3_73 : Cond.code yX6_talk cX6_talk 3 (some .int) ∈ am_bw := am_in (am_r3 _ (List.mem_of_getElem? (i := 73) rfl)) rfl
theorem aw_3_74 : Cond.methodLink RX6 210 yX4_search ∈ am_bw := am_in (am_r3 _ (List.mem_of_getElem? (i := 74) rfl)) rfl
theorem aw_3_75 : Cond.instanceMethod yX4_search ∈ am_bw := am_in (am_r3 _ (List.mem_of_getElem? (i := 75) rfl)) rfl
theorem aw_3_76 : Cond.selects RX4 yX4_search yX4_search ∈ am_bw := am_in (am_r3 _ (List.mem_of_getElem? (i := 76) rfl)) rfl
theorem aw_3_77 : Cond.code yX4_search cX4_search 4 none ∈ am_bw := am_in (am_r3 _ (List.mem_of_getElem? (i := 77) rfl)) rfl
theorem aw_3_78 : Cond.methodLink RX4 25 yX2_copy ∈ am_bw := am_in (am_r3 _ (List.mem_of_getElem? (i := 78) rfl)) rfl
theorem aw_3_79 : Cond.methodLink RX4 33 yX4_discuss ∈ am_bw := am_in (am_r3 _ (List.mem_of_getElem? (i := 79) rfl)) rfl
theorem aw_3_8 : Cond.instanceMethod yX6_light ∈ am_bw := am_in (am_r3 _ (List.mem_of_getElem? (i := 8) rfl)) rfl
theorem aw_3_80 : Cond.static yX4_discuss ∈ am_bw := am_in (am_r3 _ (List.mem_of_getElem? (i := 80) rfl)) rfl
theorem aw_3_81 : Cond.code yX4_discuss cX4_discuss 9 none ∈ am_bw := am_in (am_r3 _ (List.mem_of_getElem? (i := 81) rfl)) rfl
theorem aw_3_82 : Cond.methodLink RX4 37 yX4_weigh ∈ am_bw := am_in (am_r3 _ (List.mem_of_getElem? (i := 82) rfl)) rfl
theorem aw_3_84 : Cond.instanceMethod yX4_weigh ∈ am_bw := am_in (am_r3 _ (List.mem_of_getElem? (i := 84) rfl)) rfl
theorem aw_3_85 : Cond.code yX4_weigh cX4_weigh 2 none ∈ am_bw := am_in (am_r3 _ (List.mem_of_getElem? (i := 85) rfl)) rfl
theorem aw_3_86 : Cond.methodLink RX4 53 arraycopyName ∈ am_bw := am_in (am_r3 _ (List.mem_of_getElem? (i := 86) rfl)) rfl
theorem aw_3_87 : Cond.methodLink RX4 44 yX2_goBy ∈ am_bw := am_in (am_r3 _ (List.mem_of_getElem? (i := 87) rfl)) rfl
theorem aw_3_88 : Cond.methodLink RX4 47 yX0_lightOfAll ∈ am_bw := am_in (am_r3 _ (List.mem_of_getElem? (i := 88) rfl)) rfl
theorem aw_3_9 : Cond.selects RX6 yX6_light yX6_light ∈ am_bw := am_in (am_r3 _ (List.mem_of_getElem? (i := 9) rfl)) rfl
theorem aw_3_90 : Cond.instanceMethod yX6_settles ∈ am_bw := am_in (am_r3 _ (List.mem_of_getElem? (i := 90) rfl)) rfl
theorem aw_3_91 : Cond.selects RX6 yX6_settles yX6_settles ∈ am_bw := am_in (am_r3 _ (List.mem_of_getElem? (i := 91) rfl)) rfl
theorem aw_3_92 : Cond.code yX6_settles cX6_settles 2 (some .int) ∈ am_bw := am_in (am_r3 _ (List.mem_of_getElem? (i := 92) rfl)) rfl
theorem aw_3_93 : Cond.methodLink RX6 217 yX6_nobodyAtOdds ∈ am_bw := am_in (am_r3 _ (List.mem_of_getElem? (i := 93) rfl)) rfl
theorem aw_3_94 : Cond.static yX6_nobodyAtOdds ∈ am_bw := am_in (am_r3 _ (List.mem_of_getElem? (i := 94) rfl)) rfl
theorem aw_3_95 : Cond.code yX6_nobodyAtOdds cX6_nobodyAtOdds 3 (some .boolean) ∈ am_bw := am_in (am_r3 _ (List.mem_of_getElem? (i := 95) rfl)) rfl
theorem aw_3_97 : Cond.instanceMethod yX6_seen ∈ am_bw := am_in (am_r3 _ (List.mem_of_getElem? (i := 97) rfl)) rfl
theorem aw_3_98 : Cond.selects RX6 yX6_seen yX6_seen ∈ am_bw := am_in (am_r3 _ (List.mem_of_getElem? (i := 98) rfl)) rfl
theorem aw_3_99 : Cond.code yX6_seen cX6_seen 3 (some .int) ∈ am_bw := am_in (am_r3 _ (List.mem_of_getElem? (i := 99) rfl)) rfl
theorem aw_4_0 : Cond.laysFinal RX7 "LampsOfDissentModel" "undone" "[I" ∈ am_bw := am_in (am_r4 _ (List.mem_of_getElem? (i := 0) rfl)) rfl
theorem aw_4_10 : Cond.lays RX7 "LampsOfDissentModel" "homesMoved" "I" ∈ am_bw := am_in (am_r4 _ (List.mem_of_getElem? (i := 10) rfl)) rfl
theorem aw_4_100 : Cond.methodLink RX7 117 yX7_temper ∈ am_bw := am_in (am_r4 _ (List.mem_of_getElem? (i := 100) rfl)) rfl
theorem aw_4_102 : Cond.instanceMethod yX7_temper ∈ am_bw := am_in (am_r4 _ (List.mem_of_getElem? (i := 102) rfl)) rfl
theorem aw_4_103 : Cond.code yX7_temper cX7_temper 2 (some .int) ∈ am_bw := am_in (am_r4 _ (List.mem_of_getElem? (i := 103) rfl)) rfl
theorem aw_4_104 : Cond.methodLink RX7 128 yX7_opinions ∈ am_bw := am_in (am_r4 _ (List.mem_of_getElem? (i := 104) rfl)) rfl
theorem aw_4_106 : Cond.instanceMethod yX7_opinions ∈ am_bw := am_in (am_r4 _ (List.mem_of_getElem? (i := 106) rfl)) rfl
theorem aw_4_107 : Cond.code yX7_opinions cX7_opinions 2 (some .int) ∈ am_bw := am_in (am_r4 _ (List.mem_of_getElem? (i := 107) rfl)) rfl
theorem aw_4_108 : Cond.methodLink RX7 131 yX7_many ∈ am_bw := am_in (am_r4 _ (List.mem_of_getElem? (i := 108) rfl)) rfl
theorem aw_4_109 : Cond.static yX7_many ∈ am_bw := am_in (am_r4 _ (List.mem_of_getElem? (i := 109) rfl)) rfl
theorem aw_4_110 : Cond.code yX7_many cX7_many 3 (some .int) ∈ am_bw := am_in (am_r4 _ (List.mem_of_getElem? (i := 110) rfl)) rfl
theorem aw_4_112 : Cond.instanceMethod yX7_work ∈ am_bw := am_in (am_r4 _ (List.mem_of_getElem? (i := 112) rfl)) rfl
theorem aw_4_113 : Cond.selects RX7 yX7_work yX7_work ∈ am_bw := am_in (am_r4 _ (List.mem_of_getElem? (i := 113) rfl)) rfl
theorem aw_4_114 : Cond.code yX7_work cX7_work 3 (some .int) ∈ am_bw := am_in (am_r4 _ (List.mem_of_getElem? (i := 114) rfl)) rfl
theorem aw_4_115 : Cond.constantLong RX7 158 (2) ∈ am_bw := am_in (am_r4 _ (List.mem_of_getElem? (i := 115) rfl)) rfl
theorem aw_4_116 : Cond.methodLink RX7 160 yX7_burns ∈ am_bw := am_in (am_r4 _ (List.mem_of_getElem? (i := 116) rfl)) rfl
theorem aw_4_118 : Cond.instanceMethod yX7_burns ∈ am_bw := am_in (am_r4 _ (List.mem_of_getElem? (i := 118) rfl)) rfl
theorem aw_4_119 : Cond.code yX7_burns cX7_burns 7 none ∈ am_bw := am_in (am_r4 _ (List.mem_of_getElem? (i := 119) rfl)) rfl
theorem aw_4_12 : Cond.laysFinal RX7 "LampsOfDissentModel" "seenHouse" "[I" ∈ am_bw := am_in (am_r4 _ (List.mem_of_getElem? (i := 12) rfl)) rfl
theorem aw_4_120 : Cond.methodLink RX7 163 yX7_allLit ∈ am_bw := am_in (am_r4 _ (List.mem_of_getElem? (i := 120) rfl)) rfl
theorem aw_4_122 : Cond.instanceMethod yX7_allLit ∈ am_bw := am_in (am_r4 _ (List.mem_of_getElem? (i := 122) rfl)) rfl
theorem aw_4_123 : Cond.code yX7_allLit cX7_allLit 3 (some .int) ∈ am_bw := am_in (am_r4 _ (List.mem_of_getElem? (i := 123) rfl)) rfl
theorem aw_4_125 : Cond.instanceMethod yX7_pass ∈ am_bw := am_in (am_r4 _ (List.mem_of_getElem? (i := 125) rfl)) rfl
theorem aw_4_126 : Cond.selects RX7 yX7_pass yX7_pass ∈ am_bw := am_in (am_r4 _ (List.mem_of_getElem? (i := 126) rfl)) rfl
theorem aw_4_127 : Cond.code yX7_pass cX7_pass 2 (some .int) ∈ am_bw := am_in (am_r4 _ (List.mem_of_getElem? (i := 127) rfl)) rfl
theorem aw_4_128 : Cond.constantLong RX7 166 (30) ∈ am_bw := am_in (am_r4 _ (List.mem_of_getElem? (i := 128) rfl)) rfl
theorem aw_4_129 : Cond.methodLink RX7 168 yX7_notes ∈ am_bw := am_in (am_r4 _ (List.mem_of_getElem? (i := 129) rfl)) rfl
theorem aw_4_131 : Cond.instanceMethod yX7_notes ∈ am_bw := am_in (am_r4 _ (List.mem_of_getElem? (i := 131) rfl)) rfl
theorem aw_4_132 : Cond.code yX7_notes cX7_notes 2 none ∈ am_bw := am_in (am_r4 _ (List.mem_of_getElem? (i := 132) rfl)) rfl
theorem aw_4_133 : Cond.methodLink RX7 171 yX7_goesOn ∈ am_bw := am_in (am_r4 _ (List.mem_of_getElem? (i := 133) rfl)) rfl
theorem aw_4_135 : Cond.instanceMethod yX7_goesOn ∈ am_bw := am_in (am_r4 _ (List.mem_of_getElem? (i := 135) rfl)) rfl
theorem aw_4_136 : Cond.code yX7_goesOn cX7_goesOn 3 none ∈ am_bw := am_in (am_r4 _ (List.mem_of_getElem? (i := 136) rfl)) rfl
theorem aw_4_137 : Cond.methodLink RX7 152 yX7_goesBy ∈ am_bw := am_in (am_r4 _ (List.mem_of_getElem? (i := 137) rfl)) rfl
theorem aw_4_139 : Cond.instanceMethod yX7_goesBy ∈ am_bw := am_in (am_r4 _ (List.mem_of_getElem? (i := 139) rfl)) rfl
theorem aw_4_14 : Cond.laysFinal RX7 "LampsOfDissentModel" "seenLight" "[I" ∈ am_bw := am_in (am_r4 _ (List.mem_of_getElem? (i := 14) rfl)) rfl
theorem aw_4_140 : Cond.code yX7_goesBy cX7_goesBy 5 none ∈ am_bw := am_in (am_r4 _ (List.mem_of_getElem? (i := 140) rfl)) rfl
theorem aw_4_141 : Cond.methodLink RX7 145 yX7_angers ∈ am_bw := am_in (am_r4 _ (List.mem_of_getElem? (i := 141) rfl)) rfl
theorem aw_4_143 : Cond.instanceMethod yX7_angers ∈ am_bw := am_in (am_r4 _ (List.mem_of_getElem? (i := 143) rfl)) rfl
theorem aw_4_144 : Cond.code yX7_angers cX7_angers 4 none ∈ am_bw := am_in (am_r4 _ (List.mem_of_getElem? (i := 144) rfl)) rfl
theorem aw_4_146 : Cond.instanceMethod yX7_move ∈ am_bw := am_in (am_r4 _ (List.mem_of_getElem? (i := 146) rfl)) rfl
theorem aw_4_147 : Cond.selects RX7 yX7_move yX7_move ∈ am_bw := am_in (am_r4 _ (List.mem_of_getElem? (i := 147) rfl)) rfl
theorem aw_4_148 : Cond.code yX7_move cX7_move 4 (some .int) ∈ am_bw := am_in (am_r4 _ (List.mem_of_getElem? (i := 148) rfl)) rfl
theorem aw_4_149 : Cond.methodLink RX7 174 yX7_isHouse ∈ am_bw := am_in (am_r4 _ (List.mem_of_getElem? (i := 149) rfl)) rfl
theorem aw_4_151 : Cond.instanceMethod yX7_isHouse ∈ am_bw := am_in (am_r4 _ (List.mem_of_getElem? (i := 151) rfl)) rfl
theorem aw_4_152 : Cond.code yX7_isHouse cX7_isHouse 2 (some .boolean) ∈ am_bw := am_in (am_r4 _ (List.mem_of_getElem? (i := 152) rfl)) rfl
theorem aw_4_154 : Cond.instanceMethod yX7_alter ∈ am_bw := am_in (am_r4 _ (List.mem_of_getElem? (i := 154) rfl)) rfl
theorem aw_4_155 : Cond.selects RX7 yX7_alter yX7_alter ∈ am_bw := am_in (am_r4 _ (List.mem_of_getElem? (i := 155) rfl)) rfl
theorem aw_4_156 : Cond.code yX7_alter cX7_alter 3 (some .int) ∈ am_bw := am_in (am_r4 _ (List.mem_of_getElem? (i := 156) rfl)) rfl
theorem aw_4_157 : Cond.methodLink RX7 177 yX7_isSubject ∈ am_bw := am_in (am_r4 _ (List.mem_of_getElem? (i := 157) rfl)) rfl
theorem aw_4_158 : Cond.static yX7_isSubject ∈ am_bw := am_in (am_r4 _ (List.mem_of_getElem? (i := 158) rfl)) rfl
theorem aw_4_159 : Cond.code yX7_isSubject cX7_isSubject 1 (some .boolean) ∈ am_bw := am_in (am_r4 _ (List.mem_of_getElem? (i := 159) rfl)) rfl
theorem aw_4_16 : Cond.lays RX7 "LampsOfDissentModel" "seens" "I" ∈ am_bw := am_in (am_r4 _ (List.mem_of_getElem? (i := 16) rfl)) rfl
theorem aw_4_161 : Cond.instanceMethod yX7_ration ∈ am_bw := am_in (am_r4 _ (List.mem_of_getElem? (i := 161) rfl)) rfl
theorem aw_4_162 : Cond.selects RX7 yX7_ration yX7_ration ∈ am_bw := am_in (am_r4 _ (List.mem_of_getElem? (i := 162) rfl)) rfl
theorem aw_4_163 : Cond.code yX7_ration cX7_ration 2 (some .int) ∈ am_bw := am_in (am_r4 _ (List.mem_of_getElem? (i := 163) rfl)) rfl
theorem aw_4_165 : Cond.instanceMethod yX7_undo ∈ am_bw := am_in (am_r4 _ (List.mem_of_getElem? (i := 165) rfl)) rfl
theorem aw_4_166 : Cond.selects RX7 yX7_undo yX7_undo ∈ am_bw := am_in (am_r4 _ (List.mem_of_getElem? (i := 166) rfl)) rfl
theorem aw_4_167 : Cond.code yX7_undo cX7_undo 2 (some .int) ∈ am_bw := am_in (am_r4 _ (List.mem_of_getElem? (i := 167) rfl)) rfl
theorem aw_4_169 : Cond.instanceMethod yX7_light ∈ am_bw := am_in (am_r4 _ (List.mem_of_getElem? (i := 169) rfl)) rfl
theorem aw_4_170 : Cond.selects RX7 yX7_light yX7_light ∈ am_bw := am_in (am_r4 _ (List.mem_of_getElem? (i := 170) rfl)) rfl
theorem aw_4_171 : Cond.code yX7_light cX7_light 3 (some .int) ∈ am_bw := am_in (am_r4 _ (List.mem_of_getElem? (i := 171) rfl)) rfl
theorem aw_4_172 : Cond.constantLong RX7 186 (-1) ∈ am_bw := am_in (am_r4 _ (List.mem_of_getElem? (i := 172) rfl)) rfl
theorem aw_4_173 : Cond.methodLink RX7 188 yX7_burnsIn ∈ am_bw := am_in (am_r4 _ (List.mem_of_getElem? (i := 173) rfl)) rfl
theorem aw_4_175 : Cond.instanceMethod yX7_burnsIn ∈ am_bw := am_in (am_r4 _ (List.mem_of_getElem? (i := 175) rfl)) rfl
theorem aw_4_176 : Cond.code yX7_burnsIn cX7_burnsIn 2 none ∈ am_bw := am_in (am_r4 _ (List.mem_of_getElem? (i := 176) rfl)) rfl
theorem aw_4_177 : Cond.methodLink RX7 180 yX7_asides ∈ am_bw := am_in (am_r4 _ (List.mem_of_getElem? (i := 177) rfl)) rfl
theorem aw_4_179 : Cond.instanceMethod yX7_asides ∈ am_bw := am_in (am_r4 _ (List.mem_of_getElem? (i := 179) rfl)) rfl
theorem aw_4_18 : Cond.laysFinal RX7 "LampsOfDissentModel" "kept" "[I" ∈ am_bw := am_in (am_r4 _ (List.mem_of_getElem? (i := 18) rfl)) rfl
theorem aw_4_180 : Cond.code yX7_asides cX7_asides 2 none ∈ am_bw := am_in (am_r4 _ (List.mem_of_getElem? (i := 180) rfl)) rfl
theorem aw_4_181 : Cond.methodLink RX7 183 yX7_backs ∈ am_bw := am_in (am_r4 _ (List.mem_of_getElem? (i := 181) rfl)) rfl
theorem aw_4_183 : Cond.instanceMethod yX7_backs ∈ am_bw := am_in (am_r4 _ (List.mem_of_getElem? (i := 183) rfl)) rfl
theorem aw_4_184 : Cond.code yX7_backs cX7_backs 2 none ∈ am_bw := am_in (am_r4 _ (List.mem_of_getElem? (i := 184) rfl)) rfl
theorem aw_4_185 : Cond.methodLink RX7 191 yX7_allLight ∈ am_bw := am_in (am_r4 _ (List.mem_of_getElem? (i := 185) rfl)) rfl
theorem aw_4_187 : Cond.instanceMethod yX7_allLight ∈ am_bw := am_in (am_r4 _ (List.mem_of_getElem? (i := 187) rfl)) rfl
theorem aw_4_188 : Cond.code yX7_allLight cX7_allLight 3 (some .int) ∈ am_bw := am_in (am_r4 _ (List.mem_of_getElem? (i := 188) rfl)) rfl
theorem aw_4_190 : Cond.instanceMethod yX7_lit ∈ am_bw := am_in (am_r4 _ (List.mem_of_getElem? (i := 190) rfl)) rfl
theorem aw_4_191 : Cond.selects RX7 yX7_lit yX7_lit ∈ am_bw := am_in (am_r4 _ (List.mem_of_getElem? (i := 191) rfl)) rfl
theorem aw_4_192 : Cond.code yX7_lit cX7_lit 2 (some .int) ∈ am_bw := am_in (am_r4 _ (List.mem_of_getElem? (i := 192) rfl)) rfl
theorem aw_4_194 : Cond.instanceMethod yX7_reach ∈ am_bw := am_in (am_r4 _ (List.mem_of_getElem? (i := 194) rfl)) rfl
theorem aw_4_195 : Cond.selects RX7 yX7_reach yX7_reach ∈ am_bw := am_in (am_r4 _ (List.mem_of_getElem? (i := 195) rfl)) rfl
theorem aw_4_196 : Cond.code yX7_reach cX7_reach 4 (some .int) ∈ am_bw := am_in (am_r4 _ (List.mem_of_getElem? (i := 196) rfl)) rfl
theorem aw_4_198 : Cond.instanceMethod yX7_first ∈ am_bw := am_in (am_r4 _ (List.mem_of_getElem? (i := 198) rfl)) rfl
theorem aw_4_199 : Cond.selects RX7 yX7_first yX7_first ∈ am_bw := am_in (am_r4 _ (List.mem_of_getElem? (i := 199) rfl)) rfl
theorem aw_4_2 : Cond.lays RX7 "LampsOfDissentModel" "undos" "I" ∈ am_bw := am_in (am_r4 _ (List.mem_of_getElem? (i := 2) rfl)) rfl
theorem aw_4_20 : Cond.lays RX7 "LampsOfDissentModel" "keeps" "I" ∈ am_bw := am_in (am_r4 _ (List.mem_of_getElem? (i := 20) rfl)) rfl
theorem aw_4_200 : Cond.code yX7_first cX7_first 3 (some .int) ∈ am_bw := am_in (am_r4 _ (List.mem_of_getElem? (i := 200) rfl)) rfl
theorem aw_4_202 : Cond.instanceMethod yX7_homes ∈ am_bw := am_in (am_r4 _ (List.mem_of_getElem? (i := 202) rfl)) rfl
theorem aw_4_203 : Cond.selects RX7 yX7_homes yX7_homes ∈ am_bw := am_in (am_r4 _ (List.mem_of_getElem? (i := 203) rfl)) rfl
theorem aw_4_204 : Cond.code yX7_homes cX7_homes 2 (some .int) ∈ am_bw := am_in (am_r4 _ (List.mem_of_getElem? (i := 204) rfl)) rfl
theorem aw_4_205 : Cond.methodLink RX7 206 yX7_seeksHomes ∈ am_bw := am_in (am_r4 _ (List.mem_of_getElem? (i := 205) rfl)) rfl
theorem aw_4_207 : Cond.instanceMethod yX7_seeksHomes ∈ am_bw := am_in (am_r4 _ (List.mem_of_getElem? (i := 207) rfl)) rfl
theorem aw_4_208 : Cond.code yX7_seeksHomes cX7_seeksHomes 6 none ∈ am_bw := am_in (am_r4 _ (List.mem_of_getElem? (i := 208) rfl)) rfl
theorem aw_4_209 : Cond.methodLink RX7 197 yX7_movers ∈ am_bw := am_in (am_r4 _ (List.mem_of_getElem? (i := 209) rfl)) rfl
theorem aw_4_211 : Cond.instanceMethod yX7_movers ∈ am_bw := am_in (am_r4 _ (List.mem_of_getElem? (i := 211) rfl)) rfl
theorem aw_4_212 : Cond.code yX7_movers cX7_movers 3 (some .int) ∈ am_bw := am_in (am_r4 _ (List.mem_of_getElem? (i := 212) rfl)) rfl
theorem aw_4_213 : Cond.methodLink RX7 203 yX7_isNext ∈ am_bw := am_in (am_r4 _ (List.mem_of_getElem? (i := 213) rfl)) rfl
theorem aw_4_215 : Cond.instanceMethod yX7_isNext ∈ am_bw := am_in (am_r4 _ (List.mem_of_getElem? (i := 215) rfl)) rfl
theorem aw_4_216 : Cond.code yX7_isNext cX7_isNext 2 (some .boolean) ∈ am_bw := am_in (am_r4 _ (List.mem_of_getElem? (i := 216) rfl)) rfl
theorem aw_4_218 : Cond.instanceMethod yX7_apart ∈ am_bw := am_in (am_r4 _ (List.mem_of_getElem? (i := 218) rfl)) rfl
theorem aw_4_219 : Cond.selects RX7 yX7_apart yX7_apart ∈ am_bw := am_in (am_r4 _ (List.mem_of_getElem? (i := 219) rfl)) rfl
theorem aw_4_220 : Cond.code yX7_apart cX7_apart 13 (some .int) ∈ am_bw := am_in (am_r4 _ (List.mem_of_getElem? (i := 220) rfl)) rfl
theorem aw_4_222 : Cond.instanceMethod yX7_talk ∈ am_bw := am_in (am_r4 _ (List.mem_of_getElem? (i := 222) rfl)) rfl
theorem aw_4_223 : Cond.selects RX7 yX7_talk yX7_talk ∈ am_bw := am_in (am_r4 _ (List.mem_of_getElem? (i := 223) rfl)) rfl
theorem aw_4_224 : Cond.code yX7_talk cX7_talk 12 (some .int) ∈ am_bw := am_in (am_r4 _ (List.mem_of_getElem? (i := 224) rfl)) rfl
theorem aw_4_226 : Cond.instanceMethod yX7_settles ∈ am_bw := am_in (am_r4 _ (List.mem_of_getElem? (i := 226) rfl)) rfl
theorem aw_4_227 : Cond.selects RX7 yX7_settles yX7_settles ∈ am_bw := am_in (am_r4 _ (List.mem_of_getElem? (i := 227) rfl)) rfl
theorem aw_4_228 : Cond.code yX7_settles cX7_settles 5 (some .int) ∈ am_bw := am_in (am_r4 _ (List.mem_of_getElem? (i := 228) rfl)) rfl
theorem aw_4_230 : Cond.instanceMethod yX7_seen ∈ am_bw := am_in (am_r4 _ (List.mem_of_getElem? (i := 230) rfl)) rfl
theorem aw_4_231 : Cond.selects RX7 yX7_seen yX7_seen ∈ am_bw := am_in (am_r4 _ (List.mem_of_getElem? (i := 231) rfl)) rfl
theorem aw_4_232 : Cond.code yX7_seen cX7_seen 3 (some .int) ∈ am_bw := am_in (am_r4 _ (List.mem_of_getElem? (i := 232) rfl)) rfl
theorem aw_4_233 : Cond.constantLong RX7 209 (60) ∈ am_bw := am_in (am_r4 _ (List.mem_of_getElem? (i := 233) rfl)) rfl
theorem aw_4_235 : Cond.instanceMethod yX7_forget ∈ am_bw := am_in (am_r4 _ (List.mem_of_getElem? (i := 235) rfl)) rfl
theorem aw_4_236 : Cond.selects RX7 yX7_forget yX7_forget ∈ am_bw := am_in (am_r4 _ (List.mem_of_getElem? (i := 236) rfl)) rfl
theorem aw_4_237 : Cond.code yX7_forget cX7_forget 2 (some .int) ∈ am_bw := am_in (am_r4 _ (List.mem_of_getElem? (i := 237) rfl)) rfl
theorem aw_4_239 : Cond.instanceMethod yX7_may ∈ am_bw := am_in (am_r4 _ (List.mem_of_getElem? (i := 239) rfl)) rfl
theorem aw_4_24 : Cond.instanceMethod yX7_write ∈ am_bw := am_in (am_r4 _ (List.mem_of_getElem? (i := 24) rfl)) rfl
theorem aw_4_25 : Cond.selects RX7 yX7_write yX7_write ∈ am_bw := am_in (am_r4 _ (List.mem_of_getElem? (i := 25) rfl)) rfl
theorem aw_4_26 : Cond.code yX7_write cX7_write 2 (some .int) ∈ am_bw := am_in (am_r4 _ (List.mem_of_getElem? (i := 26) rfl)) rfl
theorem aw_4_27 : Cond.constantLong RX7 63 (32) ∈ am_bw := am_in (am_r4 _ (List.mem_of_getElem? (i := 27) rfl)) rfl
theorem aw_4_28 : Cond.constantLong RX7 65 (126) ∈ am_bw := am_in (am_r4 _ (List.mem_of_getElem? (i := 28) rfl)) rfl
theorem aw_4_29 : Cond.methodLink RX7 57 yX7_in ∈ am_bw := am_in (am_r4 _ (List.mem_of_getElem? (i := 29) rfl)) rfl
theorem aw_4_30 : Cond.static yX7_in ∈ am_bw := am_in (am_r4 _ (List.mem_of_getElem? (i := 30) rfl)) rfl
theorem aw_4_31 : Cond.code yX7_in cX7_in 6 (some .boolean) ∈ am_bw := am_in (am_r4 _ (List.mem_of_getElem? (i := 31) rfl)) rfl
theorem aw_4_33 : Cond.instanceMethod yX7_wipe ∈ am_bw := am_in (am_r4 _ (List.mem_of_getElem? (i := 33) rfl)) rfl
theorem aw_4_34 : Cond.selects RX7 yX7_wipe yX7_wipe ∈ am_bw := am_in (am_r4 _ (List.mem_of_getElem? (i := 34) rfl)) rfl
theorem aw_4_35 : Cond.code yX7_wipe cX7_wipe 2 (some .int) ∈ am_bw := am_in (am_r4 _ (List.mem_of_getElem? (i := 35) rfl)) rfl
theorem aw_4_37 : Cond.instanceMethod yX7_fault ∈ am_bw := am_in (am_r4 _ (List.mem_of_getElem? (i := 37) rfl)) rfl
theorem aw_4_38 : Cond.selects RX7 yX7_fault yX7_fault ∈ am_bw := am_in (am_r4 _ (List.mem_of_getElem? (i := 38) rfl)) rfl
theorem aw_4_39 : Cond.code yX7_fault cX7_fault 2 (some .int) ∈ am_bw := am_in (am_r4 _ (List.mem_of_getElem? (i := 39) rfl)) rfl
theorem aw_4_4 : Cond.laysFinal RX7 "LampsOfDissentModel" "aside" "[I" ∈ am_bw := am_in (am_r4 _ (List.mem_of_getElem? (i := 4) rfl)) rfl
theorem aw_4_40 : Cond.methodLink RX7 101 yX7_item ∈ am_bw := am_in (am_r4 _ (List.mem_of_getElem? (i := 40) rfl)) rfl
theorem aw_4_42 : Cond.instanceMethod yX7_item ∈ am_bw := am_in (am_r4 _ (List.mem_of_getElem? (i := 42) rfl)) rfl
theorem aw_4_43 : Cond.code yX7_item cX7_item 3 (some .boolean) ∈ am_bw := am_in (am_r4 _ (List.mem_of_getElem? (i := 43) rfl)) rfl
theorem aw_4_44 : Cond.methodLink RX7 85 yX7_number ∈ am_bw := am_in (am_r4 _ (List.mem_of_getElem? (i := 44) rfl)) rfl
theorem aw_4_46 : Cond.instanceMethod yX7_number ∈ am_bw := am_in (am_r4 _ (List.mem_of_getElem? (i := 46) rfl)) rfl
theorem aw_4_47 : Cond.code yX7_number cX7_number 5 (some .boolean) ∈ am_bw := am_in (am_r4 _ (List.mem_of_getElem? (i := 47) rfl)) rfl
theorem aw_4_48 : Cond.methodLink RX7 78 yX7_isFigure ∈ am_bw := am_in (am_r4 _ (List.mem_of_getElem? (i := 48) rfl)) rfl
theorem aw_4_50 : Cond.instanceMethod yX7_isFigure ∈ am_bw := am_in (am_r4 _ (List.mem_of_getElem? (i := 50) rfl)) rfl
theorem aw_4_51 : Cond.code yX7_isFigure cX7_isFigure 1 (some .boolean) ∈ am_bw := am_in (am_r4 _ (List.mem_of_getElem? (i := 51) rfl)) rfl
theorem aw_4_52 : Cond.constantLong RX7 74 (48) ∈ am_bw := am_in (am_r4 _ (List.mem_of_getElem? (i := 52) rfl)) rfl
theorem aw_4_53 : Cond.constantLong RX7 76 (57) ∈ am_bw := am_in (am_r4 _ (List.mem_of_getElem? (i := 53) rfl)) rfl
theorem aw_4_54 : Cond.methodLink RX7 92 yX7_readPerson ∈ am_bw := am_in (am_r4 _ (List.mem_of_getElem? (i := 54) rfl)) rfl
theorem aw_4_56 : Cond.instanceMethod yX7_readPerson ∈ am_bw := am_in (am_r4 _ (List.mem_of_getElem? (i := 56) rfl)) rfl
theorem aw_4_57 : Cond.code yX7_readPerson cX7_readPerson 4 (some .boolean) ∈ am_bw := am_in (am_r4 _ (List.mem_of_getElem? (i := 57) rfl)) rfl
theorem aw_4_58 : Cond.methodLink RX7 95 yX7_readWork ∈ am_bw := am_in (am_r4 _ (List.mem_of_getElem? (i := 58) rfl)) rfl
theorem aw_4_6 : Cond.laysFinal RX7 "LampsOfDissentModel" "homes" "[I" ∈ am_bw := am_in (am_r4 _ (List.mem_of_getElem? (i := 6) rfl)) rfl
theorem aw_4_60 : Cond.instanceMethod yX7_readWork ∈ am_bw := am_in (am_r4 _ (List.mem_of_getElem? (i := 60) rfl)) rfl
theorem aw_4_61 : Cond.code yX7_readWork cX7_readWork 2 (some .boolean) ∈ am_bw := am_in (am_r4 _ (List.mem_of_getElem? (i := 61) rfl)) rfl
theorem aw_4_62 : Cond.methodLink RX7 98 yX7_readTalk ∈ am_bw := am_in (am_r4 _ (List.mem_of_getElem? (i := 62) rfl)) rfl
theorem aw_4_64 : Cond.instanceMethod yX7_readTalk ∈ am_bw := am_in (am_r4 _ (List.mem_of_getElem? (i := 64) rfl)) rfl
theorem aw_4_65 : Cond.code yX7_readTalk cX7_readTalk 1 (some .boolean) ∈ am_bw := am_in (am_r4 _ (List.mem_of_getElem? (i := 65) rfl)) rfl
theorem aw_4_67 : Cond.instanceMethod yX7_lay ∈ am_bw := am_in (am_r4 _ (List.mem_of_getElem? (i := 67) rfl)) rfl
theorem aw_4_68 : Cond.selects RX7 yX7_lay yX7_lay ∈ am_bw := am_in (am_r4 _ (List.mem_of_getElem? (i := 68) rfl)) rfl
theorem aw_4_69 : Cond.code yX7_lay cX7_lay 2 (some .int) ∈ am_bw := am_in (am_r4 _ (List.mem_of_getElem? (i := 69) rfl)) rfl
theorem aw_4_70 : Cond.methodLink RX7 104 yX7_fault ∈ am_bw := am_in (am_r4 _ (List.mem_of_getElem? (i := 70) rfl)) rfl
theorem aw_4_72 : Cond.instanceMethod yX7_person ∈ am_bw := am_in (am_r4 _ (List.mem_of_getElem? (i := 72) rfl)) rfl
theorem aw_4_73 : Cond.selects RX7 yX7_person yX7_person ∈ am_bw := am_in (am_r4 _ (List.mem_of_getElem? (i := 73) rfl)) rfl
theorem aw_4_74 : Cond.code yX7_person cX7_person 3 (some .int) ∈ am_bw := am_in (am_r4 _ (List.mem_of_getElem? (i := 74) rfl)) rfl
theorem aw_4_75 : Cond.methodLink RX7 155 yX7_isPerson ∈ am_bw := am_in (am_r4 _ (List.mem_of_getElem? (i := 75) rfl)) rfl
theorem aw_4_77 : Cond.instanceMethod yX7_isPerson ∈ am_bw := am_in (am_r4 _ (List.mem_of_getElem? (i := 77) rfl)) rfl
theorem aw_4_78 : Cond.code yX7_isPerson cX7_isPerson 2 (some .boolean) ∈ am_bw := am_in (am_r4 _ (List.mem_of_getElem? (i := 78) rfl)) rfl
theorem aw_4_79 : Cond.constantLong RX7 61 (4) ∈ am_bw := am_in (am_r4 _ (List.mem_of_getElem? (i := 79) rfl)) rfl
theorem aw_4_8 : Cond.lays RX7 "LampsOfDissentModel" "homesLit" "I" ∈ am_bw := am_in (am_r4 _ (List.mem_of_getElem? (i := 8) rfl)) rfl
theorem aw_4_80 : Cond.methodLink RX7 149 yX7_talkedOf ∈ am_bw := am_in (am_r4 _ (List.mem_of_getElem? (i := 80) rfl)) rfl
theorem aw_4_82 : Cond.instanceMethod yX7_talkedOf ∈ am_bw := am_in (am_r4 _ (List.mem_of_getElem? (i := 82) rfl)) rfl
theorem aw_4_83 : Cond.code yX7_talkedOf cX7_talkedOf 1 (some .int) ∈ am_bw := am_in (am_r4 _ (List.mem_of_getElem? (i := 83) rfl)) rfl
theorem aw_4_84 : Cond.methodLink RX7 141 yX7_meets ∈ am_bw := am_in (am_r4 _ (List.mem_of_getElem? (i := 84) rfl)) rfl
theorem aw_4_86 : Cond.instanceMethod yX7_meets ∈ am_bw := am_in (am_r4 _ (List.mem_of_getElem? (i := 86) rfl)) rfl
theorem aw_4_87 : Cond.code yX7_meets cX7_meets 4 none ∈ am_bw := am_in (am_r4 _ (List.mem_of_getElem? (i := 87) rfl)) rfl
theorem aw_4_88 : Cond.methodLink RX7 137 yX7_odds ∈ am_bw := am_in (am_r4 _ (List.mem_of_getElem? (i := 88) rfl)) rfl
theorem aw_4_90 : Cond.instanceMethod yX7_odds ∈ am_bw := am_in (am_r4 _ (List.mem_of_getElem? (i := 90) rfl)) rfl
theorem aw_4_91 : Cond.code yX7_odds cX7_odds 4 (some .int) ∈ am_bw := am_in (am_r4 _ (List.mem_of_getElem? (i := 91) rfl)) rfl
theorem aw_4_92 : Cond.methodLink RX7 121 yX7_house ∈ am_bw := am_in (am_r4 _ (List.mem_of_getElem? (i := 92) rfl)) rfl
theorem aw_4_94 : Cond.instanceMethod yX7_house ∈ am_bw := am_in (am_r4 _ (List.mem_of_getElem? (i := 94) rfl)) rfl
theorem aw_4_95 : Cond.code yX7_house cX7_house 2 (some .int) ∈ am_bw := am_in (am_r4 _ (List.mem_of_getElem? (i := 95) rfl)) rfl
theorem aw_4_96 : Cond.methodLink RX7 124 yX7_speaks ∈ am_bw := am_in (am_r4 _ (List.mem_of_getElem? (i := 96) rfl)) rfl
theorem aw_4_98 : Cond.instanceMethod yX7_speaks ∈ am_bw := am_in (am_r4 _ (List.mem_of_getElem? (i := 98) rfl)) rfl
theorem aw_4_99 : Cond.code yX7_speaks cX7_speaks 2 (some .boolean) ∈ am_bw := am_in (am_r4 _ (List.mem_of_getElem? (i := 99) rfl)) rfl
theorem aw_5_0 : Cond.selects RX7 yX7_may yX7_may ∈ am_bw := am_in (am_r5 _ (List.mem_of_getElem? (i := 0) rfl)) rfl
theorem aw_5_1 : Cond.code yX7_may cX7_may 9 (some .int) ∈ am_bw := am_in (am_r5 _ (List.mem_of_getElem? (i := 1) rfl)) rfl
theorem aw_5_11 : Cond.instanceMethod yX7_falseBy ∈ am_bw := am_in (am_r5 _ (List.mem_of_getElem? (i := 11) rfl)) rfl
theorem aw_5_12 : Cond.selects RX7 yX7_falseBy yX7_falseBy ∈ am_bw := am_in (am_r5 _ (List.mem_of_getElem? (i := 12) rfl)) rfl
theorem aw_5_13 : Cond.code yX7_falseBy cX7_falseBy 11 (some .int) ∈ am_bw := am_in (am_r5 _ (List.mem_of_getElem? (i := 13) rfl)) rfl
theorem aw_5_14 : Cond.constantLong RX7 211 (10) ∈ am_bw := am_in (am_r5 _ (List.mem_of_getElem? (i := 14) rfl)) rfl
theorem aw_5_15 : Cond.methodLink RX7 213 yX7_isSmoke ∈ am_bw := am_in (am_r5 _ (List.mem_of_getElem? (i := 15) rfl)) rfl
theorem aw_5_17 : Cond.instanceMethod yX7_isSmoke ∈ am_bw := am_in (am_r5 _ (List.mem_of_getElem? (i := 17) rfl)) rfl
theorem aw_5_18 : Cond.code yX7_isSmoke cX7_isSmoke 9 (some .boolean) ∈ am_bw := am_in (am_r5 _ (List.mem_of_getElem? (i := 18) rfl)) rfl
theorem aw_5_20 : Cond.instanceMethod yX7_winter ∈ am_bw := am_in (am_r5 _ (List.mem_of_getElem? (i := 20) rfl)) rfl
theorem aw_5_21 : Cond.selects RX7 yX7_winter yX7_winter ∈ am_bw := am_in (am_r5 _ (List.mem_of_getElem? (i := 21) rfl)) rfl
theorem aw_5_22 : Cond.code yX7_winter cX7_winter 11 (some .int) ∈ am_bw := am_in (am_r5 _ (List.mem_of_getElem? (i := 22) rfl)) rfl
theorem aw_5_23 : Cond.constantLong RX7 216 (9999) ∈ am_bw := am_in (am_r5 _ (List.mem_of_getElem? (i := 23) rfl)) rfl
theorem aw_5_24 : Cond.constantLong RX7 218 (40) ∈ am_bw := am_in (am_r5 _ (List.mem_of_getElem? (i := 24) rfl)) rfl
theorem aw_5_25 : Cond.constantLong RX7 220 (7919) ∈ am_bw := am_in (am_r5 _ (List.mem_of_getElem? (i := 25) rfl)) rfl
theorem aw_5_26 : Cond.constantLong RX7 222 (6151) ∈ am_bw := am_in (am_r5 _ (List.mem_of_getElem? (i := 26) rfl)) rfl
theorem aw_5_27 : Cond.constantLong RX7 224 (65521) ∈ am_bw := am_in (am_r5 _ (List.mem_of_getElem? (i := 27) rfl)) rfl
theorem aw_5_29 : Cond.instanceMethod yX7_keep ∈ am_bw := am_in (am_r5 _ (List.mem_of_getElem? (i := 29) rfl)) rfl
theorem aw_5_3 : Cond.instanceMethod yX7_smokes ∈ am_bw := am_in (am_r5 _ (List.mem_of_getElem? (i := 3) rfl)) rfl
theorem aw_5_30 : Cond.selects RX7 yX7_keep yX7_keep ∈ am_bw := am_in (am_r5 _ (List.mem_of_getElem? (i := 30) rfl)) rfl
theorem aw_5_31 : Cond.code yX7_keep cX7_keep 2 (some .int) ∈ am_bw := am_in (am_r5 _ (List.mem_of_getElem? (i := 31) rfl)) rfl
theorem aw_5_33 : Cond.instanceMethod yX7_back ∈ am_bw := am_in (am_r5 _ (List.mem_of_getElem? (i := 33) rfl)) rfl
theorem aw_5_34 : Cond.selects RX7 yX7_back yX7_back ∈ am_bw := am_in (am_r5 _ (List.mem_of_getElem? (i := 34) rfl)) rfl
theorem aw_5_35 : Cond.code yX7_back cX7_back 2 (some .int) ∈ am_bw := am_in (am_r5 _ (List.mem_of_getElem? (i := 35) rfl)) rfl
theorem aw_5_37 : Cond.instanceMethod yX7_count ∈ am_bw := am_in (am_r5 _ (List.mem_of_getElem? (i := 37) rfl)) rfl
theorem aw_5_38 : Cond.selects RX7 yX7_count yX7_count ∈ am_bw := am_in (am_r5 _ (List.mem_of_getElem? (i := 38) rfl)) rfl
theorem aw_5_39 : Cond.code yX7_count cX7_count 2 (some .int) ∈ am_bw := am_in (am_r5 _ (List.mem_of_getElem? (i := 39) rfl)) rfl
theorem aw_5_4 : Cond.selects RX7 yX7_smokes yX7_smokes ∈ am_bw := am_in (am_r5 _ (List.mem_of_getElem? (i := 4) rfl)) rfl
theorem aw_5_40 : Cond.fieldLink RJ0 9 "java/lang/String" "value" "[B" ∈ am_bw := am_in (am_r5 _ (List.mem_of_getElem? (i := 40) rfl)) rfl
theorem aw_5_41 : Cond.fieldLink RJ0 15 "java/lang/String" "coder" "B" ∈ am_bw := am_in (am_r5 _ (List.mem_of_getElem? (i := 41) rfl)) rfl
theorem aw_5_5 : Cond.code yX7_smokes cX7_smokes 1 (some .int) ∈ am_bw := am_in (am_r5 _ (List.mem_of_getElem? (i := 5) rfl)) rfl
theorem aw_5_7 : Cond.instanceMethod yX7_married ∈ am_bw := am_in (am_r5 _ (List.mem_of_getElem? (i := 7) rfl)) rfl
theorem aw_5_8 : Cond.selects RX7 yX7_married yX7_married ∈ am_bw := am_in (am_r5 _ (List.mem_of_getElem? (i := 8) rfl)) rfl
theorem aw_5_9 : Cond.code yX7_married cX7_married 11 (some .int) ∈ am_bw := am_in (am_r5 _ (List.mem_of_getElem? (i := 9) rfl)) rfl
theorem aq_0 : Cond.fieldLinkNest "LampsOfDissent" 91 "LampsOfDissent$Text" "length" "I" "LampsOfDissent" ∈ tables_1 := am_r1 _ (List.mem_of_getElem? (i := 33) rfl)
theorem aq_1 : Cond.fieldLinkNest "LampsOfDissent$City" 44 "LampsOfDissent$Moment" "kind" "[I" "LampsOfDissent" ∈ tables_1 := am_r1 _ (List.mem_of_getElem? (i := 59) rfl)
theorem aq_2 : Cond.fieldLinkNest "LampsOfDissent" 104 "LampsOfDissent$Moment" "kind" "[I" "LampsOfDissent" ∈ tables_1 := am_r1 _ (List.mem_of_getElem? (i := 60) rfl)
theorem aq_3 : Cond.fieldLinkNest "LampsOfDissent$City" 47 "LampsOfDissent$Moment" "opinions" "[I" "LampsOfDissent" ∈ tables_1 := am_r1 _ (List.mem_of_getElem? (i := 62) rfl)
theorem aq_4 : Cond.fieldLinkNest "LampsOfDissent" 107 "LampsOfDissent$Moment" "opinions" "[I" "LampsOfDissent" ∈ tables_1 := am_r1 _ (List.mem_of_getElem? (i := 63) rfl)
theorem aq_5 : Cond.fieldLinkNest "LampsOfDissent$City" 50 "LampsOfDissent$Moment" "temper" "[I" "LampsOfDissent" ∈ tables_1 := am_r1 _ (List.mem_of_getElem? (i := 65) rfl)
theorem aq_6 : Cond.fieldLinkNest "LampsOfDissent" 110 "LampsOfDissent$Moment" "temper" "[I" "LampsOfDissent" ∈ tables_1 := am_r1 _ (List.mem_of_getElem? (i := 66) rfl)
theorem aq_7 : Cond.fieldLinkNest "LampsOfDissent$HomeSearch" 62 "LampsOfDissent$Moment" "home" "[I" "LampsOfDissent" ∈ tables_1 := am_r1 _ (List.mem_of_getElem? (i := 68) rfl)
theorem aq_8 : Cond.fieldLinkNest "LampsOfDissent$City" 53 "LampsOfDissent$Moment" "home" "[I" "LampsOfDissent" ∈ tables_1 := am_r1 _ (List.mem_of_getElem? (i := 69) rfl)
theorem aq_9 : Cond.fieldLinkNest "LampsOfDissent" 113 "LampsOfDissent$Moment" "home" "[I" "LampsOfDissent" ∈ tables_1 := am_r1 _ (List.mem_of_getElem? (i := 70) rfl)
theorem aq_10 : Cond.fieldLinkNest "LampsOfDissent" 137 "LampsOfDissent$Moment" "hour" "I" "LampsOfDissent" ∈ tables_1 := am_r1 _ (List.mem_of_getElem? (i := 73) rfl)
theorem aq_11 : Cond.fieldLinkNest "LampsOfDissent$City" 59 "LampsOfDissent$Moment" "hour" "I" "LampsOfDissent" ∈ tables_1 := am_r1 _ (List.mem_of_getElem? (i := 74) rfl)
theorem aq_12 : Cond.fieldLinkNest "LampsOfDissent$TalkSearch" 41 "LampsOfDissent$Moment" "rations" "I" "LampsOfDissent" ∈ tables_1 := am_r1 _ (List.mem_of_getElem? (i := 76) rfl)
theorem aq_13 : Cond.fieldLinkNest "LampsOfDissent$City" 56 "LampsOfDissent$Moment" "rations" "I" "LampsOfDissent" ∈ tables_1 := am_r1 _ (List.mem_of_getElem? (i := 77) rfl)
theorem aq_14 : Cond.fieldLinkNest "LampsOfDissent" 154 "LampsOfDissent$Moment" "rations" "I" "LampsOfDissent" ∈ tables_1 := am_r1 _ (List.mem_of_getElem? (i := 78) rfl)
theorem aq_15 : Cond.fieldLinkNest "LampsOfDissent" 271 "LampsOfDissent$City" "start" "LLampsOfDissent$Moment;" "LampsOfDissent" ∈ tables_1 := am_r1 _ (List.mem_of_getElem? (i := 95) rfl)
theorem aq_16 : Cond.fieldLinkNest "LampsOfDissent$HomeSearch" 72 "LampsOfDissent$City" "workHouse" "[I" "LampsOfDissent" ∈ tables_1 := am_r1 _ (List.mem_of_getElem? (i := 97) rfl)
theorem aq_17 : Cond.fieldLinkNest "LampsOfDissent" 127 "LampsOfDissent$City" "workHouse" "[I" "LampsOfDissent" ∈ tables_1 := am_r1 _ (List.mem_of_getElem? (i := 98) rfl)
theorem aq_18 : Cond.fieldLinkNest "LampsOfDissent$HomeSearch" 75 "LampsOfDissent$City" "workNeed" "[I" "LampsOfDissent" ∈ tables_1 := am_r1 _ (List.mem_of_getElem? (i := 100) rfl)
theorem aq_19 : Cond.fieldLinkNest "LampsOfDissent" 130 "LampsOfDissent$City" "workNeed" "[I" "LampsOfDissent" ∈ tables_1 := am_r1 _ (List.mem_of_getElem? (i := 101) rfl)
theorem aq_20 : Cond.fieldLinkNest "LampsOfDissent$HomeSearch" 59 "LampsOfDissent$City" "houses" "I" "LampsOfDissent" ∈ tables_1 := am_r1 _ (List.mem_of_getElem? (i := 104) rfl)
theorem aq_21 : Cond.fieldLinkNest "LampsOfDissent" 176 "LampsOfDissent$City" "houses" "I" "LampsOfDissent" ∈ tables_1 := am_r1 _ (List.mem_of_getElem? (i := 105) rfl)
theorem aq_22 : Cond.fieldLinkNest "LampsOfDissent$HomeSearch" 52 "LampsOfDissent$City" "people" "I" "LampsOfDissent" ∈ tables_1 := am_r1 _ (List.mem_of_getElem? (i := 107) rfl)
theorem aq_23 : Cond.fieldLinkNest "LampsOfDissent" 98 "LampsOfDissent$City" "people" "I" "LampsOfDissent" ∈ tables_1 := am_r1 _ (List.mem_of_getElem? (i := 108) rfl)
theorem aq_24 : Cond.fieldLinkNest "LampsOfDissent$HomeSearch" 65 "LampsOfDissent$City" "works" "I" "LampsOfDissent" ∈ tables_1 := am_r1 _ (List.mem_of_getElem? (i := 110) rfl)
theorem aq_25 : Cond.fieldLinkNest "LampsOfDissent" 124 "LampsOfDissent$City" "works" "I" "LampsOfDissent" ∈ tables_1 := am_r1 _ (List.mem_of_getElem? (i := 111) rfl)
theorem aq_26 : Cond.fieldLinkNest "LampsOfDissent" 161 "LampsOfDissent$Past" "held" "I" "LampsOfDissent" ∈ tables_1 := am_r1 _ (List.mem_of_getElem? (i := 144) rfl)
theorem aq_27 : Cond.fieldLinkNest "LampsOfDissent" 192 "LampsOfDissent$HomeSearch" "best" "[I" "LampsOfDissent" ∈ tables_1 := am_r1 _ (List.mem_of_getElem? (i := 162) rfl)
theorem aq_28 : Cond.fieldLinkNest "LampsOfDissent" 186 "LampsOfDissent$HomeSearch" "bestLit" "I" "LampsOfDissent" ∈ tables_1 := am_r1 _ (List.mem_of_getElem? (i := 164) rfl)
theorem aq_29 : Cond.fieldLinkNest "LampsOfDissent" 189 "LampsOfDissent$HomeSearch" "bestMoved" "I" "LampsOfDissent" ∈ tables_1 := am_r1 _ (List.mem_of_getElem? (i := 166) rfl)
theorem aq_30 : Cond.fieldLinkNest "LampsOfDissent" 216 "LampsOfDissent$TalkSearch" "best" "[I" "LampsOfDissent" ∈ tables_1 := am_r1 _ (List.mem_of_getElem? (i := 191) rfl)
theorem aq_31 : Cond.fieldLinkNest "LampsOfDissent" 213 "LampsOfDissent$TalkSearch" "most" "I" "LampsOfDissent" ∈ tables_1 := am_r1 _ (List.mem_of_getElem? (i := 193) rfl)
theorem aq_32 : Cond.methodLinkNest "LampsOfDissent" 9 ⟨"LampsOfDissent$Text", "<init>", "()V"⟩ "LampsOfDissent" ∈ tables_1 := am_r1 _ (List.mem_of_getElem? (i := 27) rfl)
theorem aq_33 : Cond.methodLinkNest "LampsOfDissent" 18 ⟨"LampsOfDissent$City", "<init>", "()V"⟩ "LampsOfDissent" ∈ tables_1 := am_r1 _ (List.mem_of_getElem? (i := 48) rfl)
theorem aq_34 : Cond.methodLinkNest "LampsOfDissent$City" 11 ⟨"LampsOfDissent$Moment", "<init>", "()V"⟩ "LampsOfDissent" ∈ tables_1 := am_r1 _ (List.mem_of_getElem? (i := 54) rfl)
theorem aq_35 : Cond.methodLinkNest "LampsOfDissent" 28 ⟨"LampsOfDissent$Moment", "<init>", "()V"⟩ "LampsOfDissent" ∈ tables_1 := am_r1 _ (List.mem_of_getElem? (i := 131) rfl)
theorem aq_36 : Cond.methodLinkNest "LampsOfDissent$Past" 17 ⟨"LampsOfDissent$Moment", "<init>", "()V"⟩ "LampsOfDissent" ∈ tables_1 := am_r1 _ (List.mem_of_getElem? (i := 140) rfl)
theorem aq_37 : Cond.methodLinkNest "LampsOfDissent" 56 ⟨"LampsOfDissent$HomeSearch", "<init>", "()V"⟩ "LampsOfDissent" ∈ tables_1 := am_r1 _ (List.mem_of_getElem? (i := 154) rfl)
theorem aq_38 : Cond.methodLinkNest "LampsOfDissent$TalkSearch" 24 ⟨"LampsOfDissent$Moment", "<init>", "()V"⟩ "LampsOfDissent" ∈ tables_1 := am_r1 _ (List.mem_of_getElem? (i := 187) rfl)
theorem am_nest_in : ∀ w ∈ am_nest, w ∈ tables_1 := List.forall_mem_cons.mpr ⟨aq_0, List.forall_mem_cons.mpr ⟨aq_1, List.forall_mem_cons.mpr ⟨aq_2, List.forall_mem_cons.mpr ⟨aq_3, List.forall_mem_cons.mpr ⟨aq_4, List.forall_mem_cons.mpr ⟨aq_5, List.forall_mem_cons.mpr ⟨aq_6, List.forall_mem_cons.mpr ⟨aq_7, List.forall_mem_cons.mpr ⟨aq_8, List.forall_mem_cons.mpr ⟨aq_9, List.forall_mem_cons.mpr ⟨aq_10, List.forall_mem_cons.mpr ⟨aq_11, List.forall_mem_cons.mpr ⟨aq_12, List.forall_mem_cons.mpr ⟨aq_13, List.forall_mem_cons.mpr ⟨aq_14, List.forall_mem_cons.mpr ⟨aq_15, List.forall_mem_cons.mpr ⟨aq_16, List.forall_mem_cons.mpr ⟨aq_17, List.forall_mem_cons.mpr ⟨aq_18, List.forall_mem_cons.mpr ⟨aq_19, List.forall_mem_cons.mpr ⟨aq_20, List.forall_mem_cons.mpr ⟨aq_21, List.forall_mem_cons.mpr ⟨aq_22, List.forall_mem_cons.mpr ⟨aq_23, List.forall_mem_cons.mpr ⟨aq_24, List.forall_mem_cons.mpr ⟨aq_25, List.forall_mem_cons.mpr ⟨aq_26, List.forall_mem_cons.mpr ⟨aq_27, List.forall_mem_cons.mpr ⟨aq_28, List.forall_mem_cons.mpr ⟨aq_29, List.forall_mem_cons.mpr ⟨aq_30, List.forall_mem_cons.mpr ⟨aq_31, List.forall_mem_cons.mpr ⟨aq_32, List.forall_mem_cons.mpr ⟨aq_33, List.forall_mem_cons.mpr ⟨aq_34, List.forall_mem_cons.mpr ⟨aq_35, List.forall_mem_cons.mpr ⟨aq_36, List.forall_mem_cons.mpr ⟨aq_37, List.forall_mem_cons.mpr ⟨aq_38, fun _ h => absurd h List.not_mem_nil⟩⟩⟩⟩⟩⟩⟩⟩⟩⟩⟩⟩⟩⟩⟩⟩⟩⟩⟩⟩⟩⟩⟩⟩⟩⟩⟩⟩⟩⟩⟩⟩⟩⟩⟩⟩⟩⟩⟩
theorem am_nest_k : am_nest.all (fun w => match w with | .fieldLinkNest .. => true | .methodLinkNest .. => true | _ => false) = true := by decide +kernel
