theorem u_HT : ∀ k, k < 4 → u_lay "HerbrandTables" T_HT k ∈ gW
  | 0, _ => w_1_214
  | 1, _ => w_1_216
  | 2, _ => w_1_218
  | 3, _ => w_1_220
  | n + 4, h => absurd h (by omega)
theorem gc_HT : gOK 0 "HerbrandTables" T_HT 4 t_HT := ⟨rfl, fun w hw => by obtain ⟨k, hk, rfl⟩ := List.mem_map.mp hw; exact u_HT k (List.mem_range.mp hk), by decide +kernel, by decide +kernel, by decide +kernel⟩
theorem u_Text : ∀ k, k < 2 → u_lay "HerbrandTables$Text" T_Text k ∈ gW
  | 0, _ => w_1_40
  | 1, _ => w_1_42
  | n + 2, h => absurd h (by omega)
theorem gc_Text : gOK 1 "HerbrandTables$Text" T_Text 2 t_Text := ⟨rfl, fun w hw => by obtain ⟨k, hk, rfl⟩ := List.mem_map.mp hw; exact u_Text k (List.mem_range.mp hk), by decide +kernel, by decide +kernel, by decide +kernel⟩
theorem u_Voc : ∀ k, k < 5 → u_lay "HerbrandTables$Vocabulary" T_Voc k ∈ gW
  | 0, _ => w_1_71
  | 1, _ => w_1_73
  | 2, _ => w_1_75
  | 3, _ => w_1_77
  | 4, _ => w_1_79
  | n + 5, h => absurd h (by omega)
theorem gc_Voc : gOK 2 "HerbrandTables$Vocabulary" T_Voc 5 t_Voc := ⟨rfl, fun w hw => by obtain ⟨k, hk, rfl⟩ := List.mem_map.mp hw; exact u_Voc k (List.mem_range.mp hk), by decide +kernel, by decide +kernel, by decide +kernel⟩
theorem u_Lit : ∀ k, k < 3 → u_lay "HerbrandTables$Literal" T_Lit k ∈ gW
  | 0, _ => w_1_97
  | 1, _ => w_1_99
  | 2, _ => w_1_101
  | n + 3, h => absurd h (by omega)
theorem gc_Lit : gOK 3 "HerbrandTables$Literal" T_Lit 3 t_Lit := ⟨rfl, fun w hw => by obtain ⟨k, hk, rfl⟩ := List.mem_map.mp hw; exact u_Lit k (List.mem_range.mp hk), by decide +kernel, by decide +kernel, by decide +kernel⟩
theorem u_Rd : ∀ k, k < 5 → u_lay "HerbrandTables$Reader" T_Rd k ∈ gW
  | 0, _ => w_1_112
  | 1, _ => w_1_114
  | 2, _ => w_1_116
  | 3, _ => w_1_118
  | 4, _ => w_1_120
  | n + 5, h => absurd h (by omega)
theorem gc_Rd : gOK 4 "HerbrandTables$Reader" T_Rd 5 t_Rd := ⟨rfl, fun w hw => by obtain ⟨k, hk, rfl⟩ := List.mem_map.mp hw; exact u_Rd k (List.mem_range.mp hk), by decide +kernel, by decide +kernel, by decide +kernel⟩
theorem u_Sen : ∀ k, k < 10 → u_lay "HerbrandTables$Sentence" T_Sen k ∈ gW
  | 0, _ => w_1_189
  | 1, _ => w_1_191
  | 2, _ => w_1_193
  | 3, _ => w_1_195
  | 4, _ => w_1_197
  | 5, _ => w_1_199
  | 6, _ => w_1_201
  | 7, _ => w_1_203
  | 8, _ => w_1_205
  | 9, _ => w_1_207
  | n + 10, h => absurd h (by omega)
theorem gc_Sen : gOK 5 "HerbrandTables$Sentence" T_Sen 10 t_Sen := ⟨rfl, fun w hw => by obtain ⟨k, hk, rfl⟩ := List.mem_map.mp hw; exact u_Sen k (List.mem_range.mp hk), by decide +kernel, by decide +kernel, by decide +kernel⟩
theorem u_Ins : ∀ k, k < 2 → u_lay "HerbrandTables$Instance" T_Ins k ∈ gW
  | 0, _ => w_1_153
  | 1, _ => w_1_155
  | n + 2, h => absurd h (by omega)
theorem gc_Ins : gOK 6 "HerbrandTables$Instance" T_Ins 2 t_Ins := ⟨rfl, fun w hw => by obtain ⟨k, hk, rfl⟩ := List.mem_map.mp hw; exact u_Ins k (List.mem_range.mp hk), by decide +kernel, by decide +kernel, by decide +kernel⟩
theorem u_Iset : ∀ k, k < 2 → u_lay "HerbrandTables$InstanceSet" T_Iset k ∈ gW
  | 0, _ => w_1_140
  | 1, _ => w_1_142
  | n + 2, h => absurd h (by omega)
theorem gc_Iset : gOK 7 "HerbrandTables$InstanceSet" T_Iset 2 t_Iset := ⟨rfl, fun w hw => by obtain ⟨k, hk, rfl⟩ := List.mem_map.mp hw; exact u_Iset k (List.mem_range.mp hk), by decide +kernel, by decide +kernel, by decide +kernel⟩
theorem u_Tab : ∀ k, k < 3 → u_lay "HerbrandTables$TableSet" T_Tab k ∈ gW
  | 0, _ => w_1_168
  | 1, _ => w_1_170
  | 2, _ => w_1_172
  | n + 3, h => absurd h (by omega)
theorem gc_Tab : gOK 8 "HerbrandTables$TableSet" T_Tab 3 t_Tab := ⟨rfl, fun w hw => by obtain ⟨k, hk, rfl⟩ := List.mem_map.mp hw; exact u_Tab k (List.mem_range.mp hk), by decide +kernel, by decide +kernel, by decide +kernel⟩
theorem u_Mod : ∀ k, k < 25 → u_lay "HerbrandTablesModel" T_Mod k ∈ gW
  | 0, _ => w_3_212
  | 1, _ => w_3_214
  | 2, _ => w_3_216
  | 3, _ => w_3_218
  | 4, _ => w_3_220
  | 5, _ => w_3_222
  | 6, _ => w_3_224
  | 7, _ => w_3_226
  | 8, _ => w_3_228
  | 9, _ => w_3_230
  | 10, _ => w_3_232
  | 11, _ => w_3_234
  | 12, _ => w_3_236
  | 13, _ => w_3_238
  | 14, _ => w_4_0
  | 15, _ => w_4_2
  | 16, _ => w_4_4
  | 17, _ => w_4_6
  | 18, _ => w_4_8
  | 19, _ => w_4_10
  | 20, _ => w_4_12
  | 21, _ => w_4_14
  | 22, _ => w_4_16
  | 23, _ => w_4_18
  | 24, _ => w_4_20
  | n + 25, h => absurd h (by omega)
theorem gc_Mod : gOK 9 "HerbrandTablesModel" T_Mod 25 t_Mod := ⟨rfl, fun w hw => by obtain ⟨k, hk, rfl⟩ := List.mem_map.mp hw; exact u_Mod k (List.mem_range.mp hk), by decide +kernel, by decide +kernel, by decide +kernel⟩
abbrev M_Arr_fillI : gM := (⟨"java/util/Arrays", "fill", "([II)V"⟩, prog_22_method_103_code, 4, none, [])
abbrev r_Arr_fillI : Room := { frames := 0, cells := 0, slots := 0, locals := 0 }
theorem gm_Arr_fillI : gMd M_Arr_fillI 2 := ⟨w_1_60, w_1_5, by decide +kernel, by decide +kernel, by decide +kernel⟩
abbrev M_Arr_fillJ : gM := (⟨"java/util/Arrays", "fill", "([JJ)V"⟩, prog_22_method_101_code, 5, none, [])
abbrev r_Arr_fillJ : Room := { frames := 0, cells := 0, slots := 0, locals := 0 }
theorem gm_Arr_fillJ : gMd M_Arr_fillJ 2 := ⟨w_2_82, w_1_5, by decide +kernel, by decide +kernel, by decide +kernel⟩
abbrev M_HT_atom : gM := (⟨"HerbrandTables", "atom", "(III)I"⟩, prog_1_method_8_code, 4, (some .int), [])
abbrev r_HT_atom : Room := { frames := 3, cells := 0, slots := 0, locals := 69 }
theorem gm_HT_atom : gMd M_HT_atom 3 := ⟨w_2_20, w_1_1, by decide +kernel, by decide +kernel, by decide +kernel⟩
abbrev M_HT_atoms : gM := (⟨"HerbrandTables", "atoms", "()I"⟩, prog_1_method_7_code, 1, (some .int), [])
abbrev r_HT_atoms : Room := { frames := 0, cells := 0, slots := 0, locals := 0 }
theorem gm_HT_atoms : gMd M_HT_atoms 0 := ⟨w_2_16, w_1_1, by decide +kernel, by decide +kernel, by decide +kernel⟩
abbrev M_HT_clauses : gM := (⟨"HerbrandTables", "clauses", "()I"⟩, prog_1_method_6_code, 1, (some .int), [])
abbrev r_HT_clauses : Room := { frames := 0, cells := 0, slots := 0, locals := 0 }
theorem gm_HT_clauses : gMd M_HT_clauses 0 := ⟨w_2_12, w_1_1, by decide +kernel, by decide +kernel, by decide +kernel⟩
abbrev M_HT_core : gM := (⟨"HerbrandTables", "core", "(I)Z"⟩, prog_1_method_17_code, 2, (some .boolean), [])
abbrev r_HT_core : Room := { frames := 7, cells := 2, slots := 12, locals := 112 }
theorem gm_HT_core : gMd M_HT_core 1 := ⟨w_3_175, w_1_1, by decide +kernel, by decide +kernel, by decide +kernel⟩
abbrev M_HT_erase : gM := (⟨"HerbrandTables", "erase", "()I"⟩, prog_1_method_3_code, 1, (some .int), [])
abbrev r_HT_erase : Room := { frames := 1, cells := 0, slots := 0, locals := 21 }
theorem gm_HT_erase : gMd M_HT_erase 0 := ⟨w_2_0, w_1_1, by decide +kernel, by decide +kernel, by decide +kernel⟩
abbrev M_HT_fault : gM := (⟨"HerbrandTables", "fault", "()I"⟩, prog_1_method_5_code, 1, (some .int), [])
abbrev r_HT_fault : Room := { frames := 0, cells := 0, slots := 0, locals := 0 }
theorem gm_HT_fault : gMd M_HT_fault 0 := ⟨w_2_8, w_1_1, by decide +kernel, by decide +kernel, by decide +kernel⟩
abbrev M_HT_forced : gM := (⟨"HerbrandTables", "forced", "(I)I"⟩, prog_1_method_15_code, 5, (some .int), [])
abbrev r_HT_forced : Room := { frames := 7, cells := 3, slots := 18, locals := 110 }
theorem gm_HT_forced : gMd M_HT_forced 1 := ⟨w_3_142, w_1_1, by decide +kernel, by decide +kernel, by decide +kernel⟩
abbrev M_HT_greatest : gM := (⟨"HerbrandTables", "greatest", "()I"⟩, prog_1_method_14_code, 2, (some .int), [])
abbrev r_HT_greatest : Room := { frames := 7, cells := 2, slots := 12, locals := 110 }
theorem gm_HT_greatest : gMd M_HT_greatest 0 := ⟨w_3_130, w_1_1, by decide +kernel, by decide +kernel, by decide +kernel⟩
abbrev M_HT_holds : gM := (⟨"HerbrandTables", "holds", "()Z"⟩, prog_1_method_11_code, 1, (some .boolean), [])
abbrev r_HT_holds : Room := { frames := 4, cells := 0, slots := 0, locals := 90 }
theorem gm_HT_holds : gMd M_HT_holds 0 := ⟨w_2_58, w_1_1, by decide +kernel, by decide +kernel, by decide +kernel⟩
abbrev M_HT_init : gM := (⟨"HerbrandTables", "<init>", "()V"⟩, prog_1_method_1_code, 1, none, [])
abbrev r_HT_init : Room := { frames := 3, cells := 144, slots := 2061, locals := 64 }
theorem gm_HT_init : gMd M_HT_init 0 := ⟨w_1_27, w_1_1, by decide +kernel, by decide +kernel, by decide +kernel⟩
abbrev M_HT_instances : gM := (⟨"HerbrandTables", "instances", "()I"⟩, prog_1_method_9_code, 1, (some .int), [])
abbrev r_HT_instances : Room := { frames := 1, cells := 0, slots := 0, locals := 20 }
theorem gm_HT_instances : gMd M_HT_instances 0 := ⟨w_2_42, w_1_1, by decide +kernel, by decide +kernel, by decide +kernel⟩
abbrev M_HT_instancesOf : gM := (⟨"HerbrandTables", "instancesOf", "(I)I"⟩, prog_1_method_10_code, 2, (some .int), [])
abbrev r_HT_instancesOf : Room := { frames := 1, cells := 0, slots := 0, locals := 21 }
theorem gm_HT_instancesOf : gMd M_HT_instancesOf 1 := ⟨w_2_50, w_1_1, by decide +kernel, by decide +kernel, by decide +kernel⟩
abbrev M_HT_least : gM := (⟨"HerbrandTables", "least", "()I"⟩, prog_1_method_13_code, 2, (some .int), [])
abbrev r_HT_least : Room := { frames := 7, cells := 2, slots := 12, locals := 110 }
theorem gm_HT_least : gMd M_HT_least 0 := ⟨w_3_91, w_1_1, by decide +kernel, by decide +kernel, by decide +kernel⟩
abbrev M_HT_read : gM := (⟨"HerbrandTables", "read", "()I"⟩, prog_1_method_4_code, 1, (some .int), [])
abbrev r_HT_read : Room := { frames := 6, cells := 1, slots := 6, locals := 144 }
theorem gm_HT_read : gMd M_HT_read 0 := ⟨w_2_108, w_1_1, by decide +kernel, by decide +kernel, by decide +kernel⟩
abbrev M_HT_requireSentence : gM := (⟨"HerbrandTables", "requireSentence", "()V"⟩, prog_1_method_18_code, 1, none, [])
abbrev r_HT_requireSentence : Room := { frames := 6, cells := 1, slots := 6, locals := 89 }
theorem gm_HT_requireSentence : gMd M_HT_requireSentence 0 := ⟨w_3_66, w_1_1, by decide +kernel, by decide +kernel, by decide +kernel⟩
abbrev M_HT_someTables : gM := (⟨"HerbrandTables", "someTables", "()LHerbrandTables$TableSet;"⟩, prog_1_method_19_code, 2, (some (.object "HerbrandTables$TableSet")), [])
abbrev r_HT_someTables : Room := { frames := 6, cells := 1, slots := 6, locals := 89 }
theorem gm_HT_someTables : gMd M_HT_someTables 0 := ⟨w_3_95, w_1_1, by decide +kernel, by decide +kernel, by decide +kernel⟩
abbrev M_HT_tables : gM := (⟨"HerbrandTables", "tables", "()I"⟩, prog_1_method_12_code, 1, (some .int), [])
abbrev r_HT_tables : Room := { frames := 7, cells := 1, slots := 6, locals := 109 }
theorem gm_HT_tables : gMd M_HT_tables 0 := ⟨w_3_62, w_1_1, by decide +kernel, by decide +kernel, by decide +kernel⟩
abbrev M_HT_type : gM := (⟨"HerbrandTables", "type", "(J)Z"⟩, prog_1_method_2_code, 3, (some .boolean), [])
abbrev r_HT_type : Room := { frames := 3, cells := 0, slots := 0, locals := 69 }
theorem gm_HT_type : gMd M_HT_type 1 := ⟨w_1_226, w_1_1, by decide +kernel, by decide +kernel, by decide +kernel⟩
abbrev M_HT_without : gM := (⟨"HerbrandTables", "without", "(I)Z"⟩, prog_1_method_16_code, 2, (some .boolean), [])
abbrev r_HT_without : Room := { frames := 7, cells := 2, slots := 12, locals := 109 }
theorem gm_HT_without : gMd M_HT_without 1 := ⟨w_3_168, w_1_1, by decide +kernel, by decide +kernel, by decide +kernel⟩
abbrev M_Ins_add : gM := (⟨"HerbrandTables$Instance", "add", "(IZ)V"⟩, prog_2_method_3_code, 3, none, [])
abbrev r_Ins_add : Room := { frames := 0, cells := 0, slots := 0, locals := 0 }
theorem gm_Ins_add : gMd M_Ins_add 2 := ⟨w_3_24, w_1_9, by decide +kernel, by decide +kernel, by decide +kernel⟩
abbrev M_Ins_clear : gM := (⟨"HerbrandTables$Instance", "clear", "()V"⟩, prog_2_method_2_code, 1, none, [])
abbrev r_Ins_clear : Room := { frames := 0, cells := 0, slots := 0, locals := 0 }
theorem gm_Ins_clear : gMd M_Ins_clear 0 := ⟨w_3_14, w_1_9, by decide +kernel, by decide +kernel, by decide +kernel⟩
abbrev M_Ins_code : gM := (⟨"HerbrandTables$Instance", "code", "()I"⟩, prog_2_method_6_code, 1, (some .int), [])
abbrev r_Ins_code : Room := { frames := 0, cells := 0, slots := 0, locals := 0 }
theorem gm_Ins_code : gMd M_Ins_code 0 := ⟨w_3_32, w_1_9, by decide +kernel, by decide +kernel, by decide +kernel⟩
abbrev M_Ins_init : gM := (⟨"HerbrandTables$Instance", "<init>", "()V"⟩, prog_2_method_1_code, 1, none, [])
abbrev r_Ins_init : Room := { frames := 1, cells := 0, slots := 0, locals := 20 }
theorem gm_Ins_init : gMd M_Ins_init 0 := ⟨w_1_149, w_1_9, by decide +kernel, by decide +kernel, by decide +kernel⟩
abbrev M_Ins_isLeftOut : gM := (⟨"HerbrandTables$Instance", "isLeftOut", "()Z"⟩, prog_2_method_5_code, 1, (some .boolean), [])
abbrev r_Ins_isLeftOut : Room := { frames := 0, cells := 0, slots := 0, locals := 0 }
theorem gm_Ins_isLeftOut : gMd M_Ins_isLeftOut 0 := ⟨w_3_28, w_1_9, by decide +kernel, by decide +kernel, by decide +kernel⟩
abbrev M_Ins_wants : gM := (⟨"HerbrandTables$Instance", "wants", "(IZ)Z"⟩, prog_2_method_4_code, 3, (some .boolean), [])
abbrev r_Ins_wants : Room := { frames := 0, cells := 0, slots := 0, locals := 0 }
theorem gm_Ins_wants : gMd M_Ins_wants 2 := ⟨w_3_44, w_1_9, by decide +kernel, by decide +kernel, by decide +kernel⟩
abbrev M_Int_bitCount : gM := (⟨"java/lang/Integer", "bitCount", "(I)I"⟩, prog_16_method_49_code, 1, (some .int), [])
abbrev r_Int_bitCount : Room := { frames := 0, cells := 0, slots := 0, locals := 0 }
theorem gm_Int_bitCount : gMd M_Int_bitCount 1 := ⟨w_2_31, w_1_12, by decide +kernel, by decide +kernel, by decide +kernel⟩
abbrev M_Iset_add : gM := (⟨"HerbrandTables$InstanceSet", "add", "(I)Z"⟩, prog_3_method_3_code, 3, (some .boolean), [])
abbrev r_Iset_add : Room := { frames := 0, cells := 0, slots := 0, locals := 0 }
theorem gm_Iset_add : gMd M_Iset_add 1 := ⟨w_3_36, w_1_8, by decide +kernel, by decide +kernel, by decide +kernel⟩
abbrev M_Iset_clear : gM := (⟨"HerbrandTables$InstanceSet", "clear", "()V"⟩, prog_3_method_2_code, 1, none, [])
abbrev r_Iset_clear : Room := { frames := 0, cells := 0, slots := 0, locals := 0 }
theorem gm_Iset_clear : gMd M_Iset_clear 0 := ⟨w_3_1, w_1_8, by decide +kernel, by decide +kernel, by decide +kernel⟩
abbrev M_Iset_init : gM := (⟨"HerbrandTables$InstanceSet", "<init>", "(I)V"⟩, prog_3_method_1_code, 2, none, [])
abbrev r_Iset_init : Room := { frames := 1, cells := 1, slots := 324, locals := 20 }
theorem gm_Iset_init : gMd M_Iset_init 1 := ⟨w_1_135, w_1_8, by decide +kernel, by decide +kernel, by decide +kernel⟩
abbrev M_Law_core : gM := (⟨"HerbrandTablesLaw", "core", "(LHerbrandTables;I[J)I"⟩, method_9_code, 4, (some .int), [(0, 16, 19, 18), (0, 16, 22, 32)])
abbrev r_Law_core : Room := { frames := 8, cells := 2, slots := 12, locals := 133 }
theorem gm_Law_core : gMd M_Law_core 3 := ⟨w_3_171, w_1_0, by decide +kernel, by decide +kernel, by decide +kernel⟩
abbrev M_Law_forced : gM := (⟨"HerbrandTablesLaw", "forced", "(LHerbrandTables;I[J)I"⟩, method_7_code, 4, (some .int), [(0, 9, 12, 18), (0, 9, 15, 32), (0, 9, 18, 23)])
abbrev r_Law_forced : Room := { frames := 8, cells := 3, slots := 18, locals := 134 }
theorem gm_Law_forced : gMd M_Law_forced 3 := ⟨w_3_137, w_1_0, by decide +kernel, by decide +kernel, by decide +kernel⟩
abbrev M_Law_greatest : gM := (⟨"HerbrandTablesLaw", "greatest", "(LHerbrandTables;[J)I"⟩, method_6_code, 3, (some .int), [(0, 8, 11, 18), (0, 8, 14, 23)])
abbrev r_Law_greatest : Room := { frames := 8, cells := 2, slots := 12, locals := 131 }
theorem gm_Law_greatest : gMd M_Law_greatest 2 := ⟨w_3_126, w_1_0, by decide +kernel, by decide +kernel, by decide +kernel⟩
abbrev M_Law_law : gM := (⟨"HerbrandTablesLaw", "law", "([I)Z"⟩, code, 7, (some .boolean), [])
abbrev r_Law_law : Room := { frames := 9, cells := 0, slots := 0, locals := 186 }
abbrev M_Law_least : gM := (⟨"HerbrandTablesLaw", "least", "(LHerbrandTables;[J)I"⟩, method_5_code, 3, (some .int), [(0, 8, 11, 18), (0, 8, 14, 23)])
abbrev r_Law_least : Room := { frames := 8, cells := 2, slots := 12, locals := 131 }
theorem gm_Law_least : gMd M_Law_least 2 := ⟨w_3_86, w_1_0, by decide +kernel, by decide +kernel, by decide +kernel⟩
abbrev M_Law_read : gM := (⟨"HerbrandTablesLaw", "read", "(LHerbrandTables;[J)I"⟩, method_3_code, 3, (some .int), [(0, 8, 11, 13)])
abbrev r_Law_read : Room := { frames := 7, cells := 1, slots := 6, locals := 164 }
theorem gm_Law_read : gMd M_Law_read 2 := ⟨w_2_103, w_1_0, by decide +kernel, by decide +kernel, by decide +kernel⟩
abbrev M_Law_tables : gM := (⟨"HerbrandTablesLaw", "tables", "(LHerbrandTables;[J)I"⟩, method_4_code, 3, (some .int), [(0, 8, 11, 18)])
abbrev r_Law_tables : Room := { frames := 8, cells := 1, slots := 6, locals := 129 }
theorem gm_Law_tables : gMd M_Law_tables 2 := ⟨w_3_57, w_1_0, by decide +kernel, by decide +kernel, by decide +kernel⟩
abbrev M_Law_without : gM := (⟨"HerbrandTablesLaw", "without", "(LHerbrandTables;I[J)I"⟩, method_8_code, 4, (some .int), [(0, 16, 19, 18), (0, 16, 22, 32)])
abbrev r_Law_without : Room := { frames := 8, cells := 2, slots := 12, locals := 130 }
theorem gm_Law_without : gMd M_Law_without 3 := ⟨w_3_164, w_1_0, by decide +kernel, by decide +kernel, by decide +kernel⟩
abbrev M_Lit_init : gM := (⟨"HerbrandTables$Literal", "<init>", "()V"⟩, prog_4_method_1_code, 1, none, [])
abbrev r_Lit_init : Room := { frames := 1, cells := 1, slots := 2, locals := 20 }
theorem gm_Lit_init : gMd M_Lit_init 0 := ⟨w_1_88, w_1_6, by decide +kernel, by decide +kernel, by decide +kernel⟩
abbrev M_Lng_bitCount : gM := (⟨"java/lang/Long", "bitCount", "(J)I"⟩, prog_17_method_50_code, 2, (some .int), [])
abbrev r_Lng_bitCount : Room := { frames := 0, cells := 0, slots := 0, locals := 0 }
theorem gm_Lng_bitCount : gMd M_Lng_bitCount 1 := ⟨w_2_97, w_1_19, by decide +kernel, by decide +kernel, by decide +kernel⟩
abbrev M_Mod_allInstances : gM := (⟨"HerbrandTablesModel", "allInstances", "()I"⟩, prog_11_method_26_code, 6, (some .int), [])
abbrev r_Mod_allInstances : Room := { frames := 1, cells := 0, slots := 0, locals := 24 }
theorem gm_Mod_allInstances : gMd M_Mod_allInstances 0 := ⟨w_4_102, w_1_11, by decide +kernel, by decide +kernel, by decide +kernel⟩
abbrev M_Mod_argument : gM := (⟨"HerbrandTablesModel", "argument", "(I)I"⟩, prog_11_method_8_code, 1, (some .int), [])
abbrev r_Mod_argument : Room := { frames := 0, cells := 0, slots := 0, locals := 0 }
theorem gm_Mod_argument : gMd M_Mod_argument 1 := ⟨w_4_58, w_1_11, by decide +kernel, by decide +kernel, by decide +kernel⟩
abbrev M_Mod_atom : gM := (⟨"HerbrandTablesModel", "atom", "(III)I"⟩, prog_11_method_25_code, 6, (some .int), [])
abbrev r_Mod_atom : Room := { frames := 2, cells := 0, slots := 0, locals := 49 }
theorem gm_Mod_atom : gMd M_Mod_atom 3 := ⟨w_4_118, w_1_11, by decide +kernel, by decide +kernel, by decide +kernel⟩
abbrev M_Mod_atomOf : gM := (⟨"HerbrandTablesModel", "atomOf", "(III)I"⟩, prog_11_method_13_code, 8, (some .int), [])
abbrev r_Mod_atomOf : Room := { frames := 1, cells := 0, slots := 0, locals := 22 }
theorem gm_Mod_atomOf : gMd M_Mod_atomOf 3 := ⟨w_4_87, w_1_11, by decide +kernel, by decide +kernel, by decide +kernel⟩
abbrev M_Mod_atoms : gM := (⟨"HerbrandTablesModel", "atoms", "()I"⟩, prog_11_method_24_code, 1, (some .int), [])
abbrev r_Mod_atoms : Room := { frames := 0, cells := 0, slots := 0, locals := 0 }
theorem gm_Mod_atoms : gMd M_Mod_atoms 0 := ⟨w_4_114, w_1_11, by decide +kernel, by decide +kernel, by decide +kernel⟩
abbrev M_Mod_atomsOf : gM := (⟨"HerbrandTablesModel", "atomsOf", "([II)I"⟩, prog_11_method_7_code, 5, (some .int), [])
abbrev r_Mod_atomsOf : Room := { frames := 1, cells := 0, slots := 0, locals := 22 }
theorem gm_Mod_atomsOf : gMd M_Mod_atomsOf 2 := ⟨w_4_61, w_1_11, by decide +kernel, by decide +kernel, by decide +kernel⟩
abbrev M_Mod_bits : gM := (⟨"HerbrandTablesModel", "bits", "(I)I"⟩, prog_11_method_6_code, 3, (some .int), [])
abbrev r_Mod_bits : Room := { frames := 0, cells := 0, slots := 0, locals := 0 }
theorem gm_Mod_bits : gMd M_Mod_bits 1 := ⟨w_4_64, w_1_11, by decide +kernel, by decide +kernel, by decide +kernel⟩
abbrev M_Mod_charAt : gM := (⟨"HerbrandTablesModel", "charAt", "(I)I"⟩, prog_11_method_5_code, 2, (some .int), [])
abbrev r_Mod_charAt : Room := { frames := 0, cells := 0, slots := 0, locals := 0 }
theorem gm_Mod_charAt : gMd M_Mod_charAt 1 := ⟨w_4_52, w_1_11, by decide +kernel, by decide +kernel, by decide +kernel⟩
abbrev M_Mod_clauses : gM := (⟨"HerbrandTablesModel", "clauses", "()I"⟩, prog_11_method_23_code, 1, (some .int), [])
abbrev r_Mod_clauses : Room := { frames := 0, cells := 0, slots := 0, locals := 0 }
theorem gm_Mod_clauses : gMd M_Mod_clauses 0 := ⟨w_4_110, w_1_11, by decide +kernel, by decide +kernel, by decide +kernel⟩
abbrev M_Mod_core : gM := (⟨"HerbrandTablesModel", "core", "(I)Z"⟩, prog_11_method_40_code, 4, (some .boolean), [])
abbrev r_Mod_core : Room := { frames := 2, cells := 0, slots := 0, locals := 47 }
theorem gm_Mod_core : gMd M_Mod_core 1 := ⟨w_4_174, w_1_11, by decide +kernel, by decide +kernel, by decide +kernel⟩
abbrev M_Mod_count : gM := (⟨"HerbrandTablesModel", "count", "(I)I"⟩, prog_11_method_31_code, 4, (some .int), [])
abbrev r_Mod_count : Room := { frames := 1, cells := 0, slots := 0, locals := 24 }
theorem gm_Mod_count : gMd M_Mod_count 1 := ⟨w_4_142, w_1_11, by decide +kernel, by decide +kernel, by decide +kernel⟩
abbrev M_Mod_erase : gM := (⟨"HerbrandTablesModel", "erase", "()I"⟩, prog_11_method_4_code, 2, (some .int), [])
abbrev r_Mod_erase : Room := { frames := 0, cells := 0, slots := 0, locals := 0 }
theorem gm_Mod_erase : gMd M_Mod_erase 0 := ⟨w_4_36, w_1_11, by decide +kernel, by decide +kernel, by decide +kernel⟩
abbrev M_Mod_every : gM := (⟨"HerbrandTablesModel", "every", "()I"⟩, prog_11_method_32_code, 1, (some .int), [])
abbrev r_Mod_every : Room := { frames := 0, cells := 0, slots := 0, locals := 0 }
theorem gm_Mod_every : gMd M_Mod_every 0 := ⟨w_4_138, w_1_11, by decide +kernel, by decide +kernel, by decide +kernel⟩
abbrev M_Mod_fault : gM := (⟨"HerbrandTablesModel", "fault", "()I"⟩, prog_11_method_22_code, 1, (some .int), [])
abbrev r_Mod_fault : Room := { frames := 0, cells := 0, slots := 0, locals := 0 }
theorem gm_Mod_fault : gMd M_Mod_fault 0 := ⟨w_4_106, w_1_11, by decide +kernel, by decide +kernel, by decide +kernel⟩
abbrev M_Mod_forced : gM := (⟨"HerbrandTablesModel", "forced", "(I)I"⟩, prog_11_method_38_code, 6, (some .int), [])
abbrev r_Mod_forced : Room := { frames := 2, cells := 0, slots := 0, locals := 47 }
theorem gm_Mod_forced : gMd M_Mod_forced 1 := ⟨w_4_166, w_1_11, by decide +kernel, by decide +kernel, by decide +kernel⟩
abbrev M_Mod_greatest : gM := (⟨"HerbrandTablesModel", "greatest", "()I"⟩, prog_11_method_37_code, 2, (some .int), [])
abbrev r_Mod_greatest : Room := { frames := 1, cells := 0, slots := 0, locals := 24 }
theorem gm_Mod_greatest : gMd M_Mod_greatest 0 := ⟨w_4_162, w_1_11, by decide +kernel, by decide +kernel, by decide +kernel⟩
abbrev M_Mod_has : gM := (⟨"HerbrandTablesModel", "has", "(II)Z"⟩, prog_11_method_17_code, 5, (some .boolean), [])
abbrev r_Mod_has : Room := { frames := 0, cells := 0, slots := 0, locals := 0 }
theorem gm_Mod_has : gMd M_Mod_has 2 := ⟨w_4_91, w_1_11, by decide +kernel, by decide +kernel, by decide +kernel⟩
abbrev M_Mod_holds : gM := (⟨"HerbrandTablesModel", "holds", "()Z"⟩, prog_11_method_33_code, 1, (some .boolean), [])
abbrev r_Mod_holds : Room := { frames := 2, cells := 0, slots := 0, locals := 47 }
theorem gm_Mod_holds : gMd M_Mod_holds 0 := ⟨w_4_134, w_1_11, by decide +kernel, by decide +kernel, by decide +kernel⟩
abbrev M_Mod_holdsIn : gM := (⟨"HerbrandTablesModel", "holdsIn", "(II)Z"⟩, prog_11_method_30_code, 5, (some .boolean), [])
abbrev r_Mod_holdsIn : Room := { frames := 0, cells := 0, slots := 0, locals := 0 }
theorem gm_Mod_holdsIn : gMd M_Mod_holdsIn 2 := ⟨w_4_146, w_1_11, by decide +kernel, by decide +kernel, by decide +kernel⟩
abbrev M_Mod_init : gM := (⟨"HerbrandTablesModel", "<init>", "()V"⟩, prog_11_method_1_code, 1, none, [])
abbrev r_Mod_init : Room := { frames := 1, cells := 16, slots := 2385, locals := 20 }
theorem gm_Mod_init : gMd M_Mod_init 0 := ⟨w_3_185, w_1_11, by decide +kernel, by decide +kernel, by decide +kernel⟩
abbrev M_Mod_instance : gM := (⟨"HerbrandTablesModel", "instance", "(II)I"⟩, prog_11_method_16_code, 10, (some .int), [])
abbrev r_Mod_instance : Room := { frames := 2, cells := 0, slots := 0, locals := 49 }
theorem gm_Mod_instance : gMd M_Mod_instance 2 := ⟨w_4_80, w_1_11, by decide +kernel, by decide +kernel, by decide +kernel⟩
abbrev M_Mod_instances : gM := (⟨"HerbrandTablesModel", "instances", "()I"⟩, prog_11_method_27_code, 1, (some .int), [])
abbrev r_Mod_instances : Room := { frames := 2, cells := 0, slots := 0, locals := 49 }
theorem gm_Mod_instances : gMd M_Mod_instances 0 := ⟨w_4_122, w_1_11, by decide +kernel, by decide +kernel, by decide +kernel⟩
abbrev M_Mod_instancesOf : gM := (⟨"HerbrandTablesModel", "instancesOf", "(I)I"⟩, prog_11_method_29_code, 2, (some .int), [])
abbrev r_Mod_instancesOf : Room := { frames := 1, cells := 0, slots := 0, locals := 21 }
theorem gm_Mod_instancesOf : gMd M_Mod_instancesOf 1 := ⟨w_4_126, w_1_11, by decide +kernel, by decide +kernel, by decide +kernel⟩
abbrev M_Mod_isClause : gM := (⟨"HerbrandTablesModel", "isClause", "(I)Z"⟩, prog_11_method_28_code, 2, (some .boolean), [])
abbrev r_Mod_isClause : Room := { frames := 0, cells := 0, slots := 0, locals := 0 }
theorem gm_Mod_isClause : gMd M_Mod_isClause 1 := ⟨w_4_130, w_1_11, by decide +kernel, by decide +kernel, by decide +kernel⟩
abbrev M_Mod_isRight : gM := (⟨"HerbrandTablesModel", "isRight", "(II)Z"⟩, prog_11_method_19_code, 2, (some .boolean), [])
abbrev r_Mod_isRight : Room := { frames := 0, cells := 0, slots := 0, locals := 0 }
theorem gm_Mod_isRight : gMd M_Mod_isRight 2 := ⟨w_4_98, w_1_11, by decide +kernel, by decide +kernel, by decide +kernel⟩
abbrev M_Mod_isThing : gM := (⟨"HerbrandTablesModel", "isThing", "(I)Z"⟩, prog_11_method_12_code, 2, (some .boolean), [])
abbrev r_Mod_isThing : Room := { frames := 0, cells := 0, slots := 0, locals := 0 }
theorem gm_Mod_isThing : gMd M_Mod_isThing 1 := ⟨w_4_76, w_1_11, by decide +kernel, by decide +kernel, by decide +kernel⟩
abbrev M_Mod_least : gM := (⟨"HerbrandTablesModel", "least", "()I"⟩, prog_11_method_36_code, 2, (some .int), [])
abbrev r_Mod_least : Room := { frames := 1, cells := 0, slots := 0, locals := 24 }
theorem gm_Mod_least : gMd M_Mod_least 0 := ⟨w_4_154, w_1_11, by decide +kernel, by decide +kernel, by decide +kernel⟩
abbrev M_Mod_makeInstances : gM := (⟨"HerbrandTablesModel", "makeInstances", "(I)V"⟩, prog_11_method_18_code, 6, none, [])
abbrev r_Mod_makeInstances : Room := { frames := 3, cells := 0, slots := 0, locals := 78 }
theorem gm_Mod_makeInstances : gMd M_Mod_makeInstances 1 := ⟨w_4_72, w_1_11, by decide +kernel, by decide +kernel, by decide +kernel⟩
abbrev M_Mod_predicateOf : gM := (⟨"HerbrandTablesModel", "predicateOf", "(I)I"⟩, prog_11_method_9_code, 1, (some .int), [])
abbrev r_Mod_predicateOf : Room := { frames := 0, cells := 0, slots := 0, locals := 0 }
theorem gm_Mod_predicateOf : gMd M_Mod_predicateOf 1 := ⟨w_4_55, w_1_11, by decide +kernel, by decide +kernel, by decide +kernel⟩
abbrev M_Mod_read : gM := (⟨"HerbrandTablesModel", "read", "()I"⟩, prog_11_method_21_code, 2, (some .int), [])
abbrev r_Mod_read : Room := { frames := 4, cells := 0, slots := 0, locals := 103 }
theorem gm_Mod_read : gMd M_Mod_read 0 := ⟨w_4_40, w_1_11, by decide +kernel, by decide +kernel, by decide +kernel⟩
abbrev M_Mod_readLiteral : gM := (⟨"HerbrandTablesModel", "readLiteral", "(II)I"⟩, prog_11_method_10_code, 8, (some .int), [])
abbrev r_Mod_readLiteral : Room := { frames := 2, cells := 0, slots := 0, locals := 46 }
theorem gm_Mod_readLiteral : gMd M_Mod_readLiteral 2 := ⟨w_4_48, w_1_11, by decide +kernel, by decide +kernel, by decide +kernel⟩
abbrev M_Mod_readText : gM := (⟨"HerbrandTablesModel", "readText", "()I"⟩, prog_11_method_11_code, 6, (some .int), [])
abbrev r_Mod_readText : Room := { frames := 3, cells := 0, slots := 0, locals := 73 }
theorem gm_Mod_readText : gMd M_Mod_readText 0 := ⟨w_4_44, w_1_11, by decide +kernel, by decide +kernel, by decide +kernel⟩
abbrev M_Mod_tableOf : gM := (⟨"HerbrandTablesModel", "tableOf", "(I)I"⟩, prog_11_method_35_code, 4, (some .int), [])
abbrev r_Mod_tableOf : Room := { frames := 0, cells := 0, slots := 0, locals := 0 }
theorem gm_Mod_tableOf : gMd M_Mod_tableOf 1 := ⟨w_4_158, w_1_11, by decide +kernel, by decide +kernel, by decide +kernel⟩
abbrev M_Mod_tables : gM := (⟨"HerbrandTablesModel", "tables", "()I"⟩, prog_11_method_34_code, 1, (some .int), [])
abbrev r_Mod_tables : Room := { frames := 2, cells := 0, slots := 0, locals := 47 }
theorem gm_Mod_tables : gMd M_Mod_tables 0 := ⟨w_4_150, w_1_11, by decide +kernel, by decide +kernel, by decide +kernel⟩
abbrev M_Mod_take : gM := (⟨"HerbrandTablesModel", "take", "()V"⟩, prog_11_method_14_code, 2, none, [])
abbrev r_Mod_take : Room := { frames := 2, cells := 0, slots := 0, locals := 46 }
theorem gm_Mod_take : gMd M_Mod_take 0 := ⟨w_4_68, w_1_11, by decide +kernel, by decide +kernel, by decide +kernel⟩
abbrev M_Mod_thrown : gM := (⟨"HerbrandTablesModel", "thrown", "()I"⟩, prog_11_method_2_code, 1, (some .int), [])
abbrev r_Mod_thrown : Room := { frames := 0, cells := 0, slots := 0, locals := 0 }
theorem gm_Mod_thrown : gMd M_Mod_thrown 0 := ⟨w_4_27, w_1_11, by decide +kernel, by decide +kernel, by decide +kernel⟩
abbrev M_Mod_tryTables : gM := (⟨"HerbrandTablesModel", "tryTables", "(I)V"⟩, prog_11_method_20_code, 5, none, [])
abbrev r_Mod_tryTables : Room := { frames := 1, cells := 0, slots := 0, locals := 21 }
theorem gm_Mod_tryTables : gMd M_Mod_tryTables 1 := ⟨w_4_95, w_1_11, by decide +kernel, by decide +kernel, by decide +kernel⟩
abbrev M_Mod_type : gM := (⟨"HerbrandTablesModel", "type", "(J)Z"⟩, prog_11_method_3_code, 6, (some .boolean), [])
abbrev r_Mod_type : Room := { frames := 0, cells := 0, slots := 0, locals := 0 }
theorem gm_Mod_type : gMd M_Mod_type 1 := ⟨w_4_31, w_1_11, by decide +kernel, by decide +kernel, by decide +kernel⟩
abbrev M_Mod_valueOf : gM := (⟨"HerbrandTablesModel", "valueOf", "(II)I"⟩, prog_11_method_15_code, 2, (some .int), [])
abbrev r_Mod_valueOf : Room := { frames := 0, cells := 0, slots := 0, locals := 0 }
theorem gm_Mod_valueOf : gMd M_Mod_valueOf 2 := ⟨w_4_83, w_1_11, by decide +kernel, by decide +kernel, by decide +kernel⟩
abbrev M_Mod_without : gM := (⟨"HerbrandTablesModel", "without", "(I)Z"⟩, prog_11_method_39_code, 2, (some .boolean), [])
abbrev r_Mod_without : Room := { frames := 2, cells := 0, slots := 0, locals := 47 }
theorem gm_Mod_without : gMd M_Mod_without 1 := ⟨w_4_170, w_1_11, by decide +kernel, by decide +kernel, by decide +kernel⟩
abbrev M_Mth_max : gM := (⟨"java/lang/Math", "max", "(II)I"⟩, prog_18_method_65_code, 2, (some .int), [])
abbrev r_Mth_max : Room := { frames := 0, cells := 0, slots := 0, locals := 0 }
theorem gm_Mth_max : gMd M_Mth_max 2 := ⟨w_2_123, w_1_13, by decide +kernel, by decide +kernel, by decide +kernel⟩
abbrev M_Rd_argumentOf : gM := (⟨"HerbrandTables$Reader", "argumentOf", "(C)I"⟩, prog_5_method_8_code, 1, (some .int), [])
abbrev r_Rd_argumentOf : Room := { frames := 0, cells := 0, slots := 0, locals := 0 }
theorem gm_Rd_argumentOf : gMd M_Rd_argumentOf 1 := ⟨w_2_150, w_1_3, by decide +kernel, by decide +kernel, by decide +kernel⟩
abbrev M_Rd_findFault : gM := (⟨"HerbrandTables$Reader", "findFault", "(LHerbrandTables$Text;)I"⟩, prog_5_method_2_code, 3, (some .int), [])
abbrev r_Rd_findFault : Room := { frames := 5, cells := 0, slots := 0, locals := 113 }
theorem gm_Rd_findFault : gMd M_Rd_findFault 1 := ⟨w_2_112, w_1_3, by decide +kernel, by decide +kernel, by decide +kernel⟩
abbrev M_Rd_init : gM := (⟨"HerbrandTables$Reader", "<init>", "()V"⟩, prog_5_method_1_code, 2, none, [])
abbrev r_Rd_init : Room := { frames := 2, cells := 101, slots := 313, locals := 43 }
theorem gm_Rd_init : gMd M_Rd_init 0 := ⟨w_1_50, w_1_3, by decide +kernel, by decide +kernel, by decide +kernel⟩
abbrev M_Rd_literal : gM := (⟨"HerbrandTables$Reader", "literal", "(II)LHerbrandTables$Literal;"⟩, prog_5_method_3_code, 3, (some (.object "HerbrandTables$Literal")), [])
abbrev r_Rd_literal : Room := { frames := 0, cells := 0, slots := 0, locals := 0 }
theorem gm_Rd_literal : gMd M_Rd_literal 2 := ⟨w_2_136, w_1_3, by decide +kernel, by decide +kernel, by decide +kernel⟩
abbrev M_Rd_predicateOf : gM := (⟨"HerbrandTables$Reader", "predicateOf", "(C)I"⟩, prog_5_method_7_code, 1, (some .int), [])
abbrev r_Rd_predicateOf : Room := { frames := 0, cells := 0, slots := 0, locals := 0 }
theorem gm_Rd_predicateOf : gMd M_Rd_predicateOf 1 := ⟨w_2_143, w_1_3, by decide +kernel, by decide +kernel, by decide +kernel⟩
abbrev M_Rd_readArguments : gM := (⟨"HerbrandTables$Reader", "readArguments", "(LHerbrandTables$Text;LHerbrandTables$Literal;)Z"⟩, prog_5_method_5_code, 7, (some .boolean), [])
abbrev r_Rd_readArguments : Room := { frames := 3, cells := 0, slots := 0, locals := 64 }
theorem gm_Rd_readArguments : gMd M_Rd_readArguments 2 := ⟨w_2_147, w_1_3, by decide +kernel, by decide +kernel, by decide +kernel⟩
abbrev M_Rd_readJoint : gM := (⟨"HerbrandTables$Reader", "readJoint", "(LHerbrandTables$Text;)Z"⟩, prog_5_method_6_code, 3, (some .boolean), [])
abbrev r_Rd_readJoint : Room := { frames := 1, cells := 0, slots := 0, locals := 21 }
theorem gm_Rd_readJoint : gMd M_Rd_readJoint 1 := ⟨w_2_162, w_1_3, by decide +kernel, by decide +kernel, by decide +kernel⟩
abbrev M_Rd_readLiteral : gM := (⟨"HerbrandTables$Reader", "readLiteral", "(LHerbrandTables$Text;)Z"⟩, prog_5_method_4_code, 4, (some .boolean), [])
abbrev r_Rd_readLiteral : Room := { frames := 4, cells := 0, slots := 0, locals := 90 }
theorem gm_Rd_readLiteral : gMd M_Rd_readLiteral 1 := ⟨w_2_132, w_1_3, by decide +kernel, by decide +kernel, by decide +kernel⟩
abbrev M_Sen_atomOf : gM := (⟨"HerbrandTables$Sentence", "atomOf", "(LHerbrandTables$Literal;)I"⟩, prog_6_method_11_code, 4, (some .int), [])
abbrev r_Sen_atomOf : Room := { frames := 1, cells := 0, slots := 0, locals := 23 }
theorem gm_Sen_atomOf : gMd M_Sen_atomOf 1 := ⟨w_3_19, w_1_7, by decide +kernel, by decide +kernel, by decide +kernel⟩
abbrev M_Sen_become : gM := (⟨"HerbrandTables$Sentence", "become", "(LHerbrandTables$Reader;)V"⟩, prog_6_method_2_code, 3, none, [])
abbrev r_Sen_become : Room := { frames := 5, cells := 0, slots := 0, locals := 122 }
theorem gm_Sen_become : gMd M_Sen_become 1 := ⟨w_2_230, w_1_7, by decide +kernel, by decide +kernel, by decide +kernel⟩
abbrev M_Sen_canHold : gM := (⟨"HerbrandTables$Sentence", "canHold", "(I)Z"⟩, prog_6_method_7_code, 2, (some .boolean), [])
abbrev r_Sen_canHold : Room := { frames := 3, cells := 0, slots := 0, locals := 69 }
theorem gm_Sen_canHold : gMd M_Sen_canHold 1 := ⟨w_2_66, w_1_7, by decide +kernel, by decide +kernel, by decide +kernel⟩
abbrev M_Sen_canHoldWithoutAnyOne : gM := (⟨"HerbrandTables$Sentence", "canHoldWithoutAnyOne", "(I)Z"⟩, prog_6_method_8_code, 3, (some .boolean), [])
abbrev r_Sen_canHoldWithoutAnyOne : Room := { frames := 4, cells := 0, slots := 0, locals := 90 }
theorem gm_Sen_canHoldWithoutAnyOne : gMd M_Sen_canHoldWithoutAnyOne 1 := ⟨w_3_179, w_1_7, by decide +kernel, by decide +kernel, by decide +kernel⟩
abbrev M_Sen_everyClause : gM := (⟨"HerbrandTables$Sentence", "everyClause", "()I"⟩, prog_6_method_5_code, 1, (some .int), [])
abbrev r_Sen_everyClause : Room := { frames := 0, cells := 0, slots := 0, locals := 0 }
theorem gm_Sen_everyClause : gMd M_Sen_everyClause 0 := ⟨w_2_62, w_1_7, by decide +kernel, by decide +kernel, by decide +kernel⟩
abbrev M_Sen_hasClause : gM := (⟨"HerbrandTables$Sentence", "hasClause", "(I)Z"⟩, prog_6_method_4_code, 2, (some .boolean), [])
abbrev r_Sen_hasClause : Room := { frames := 0, cells := 0, slots := 0, locals := 0 }
theorem gm_Sen_hasClause : gMd M_Sen_hasClause 1 := ⟨w_2_54, w_1_7, by decide +kernel, by decide +kernel, by decide +kernel⟩
abbrev M_Sen_init : gM := (⟨"HerbrandTables$Sentence", "<init>", "()V"⟩, prog_6_method_1_code, 2, none, [])
abbrev r_Sen_init : Room := { frames := 2, cells := 39, slots := 1635, locals := 43 }
theorem gm_Sen_init : gMd M_Sen_init 0 := ⟨w_1_127, w_1_7, by decide +kernel, by decide +kernel, by decide +kernel⟩
abbrev M_Sen_instanceCount : gM := (⟨"HerbrandTables$Sentence", "instanceCount", "()I"⟩, prog_6_method_3_code, 1, (some .int), [])
abbrev r_Sen_instanceCount : Room := { frames := 0, cells := 0, slots := 0, locals := 0 }
theorem gm_Sen_instanceCount : gMd M_Sen_instanceCount 0 := ⟨w_2_46, w_1_7, by decide +kernel, by decide +kernel, by decide +kernel⟩
abbrev M_Sen_makeInstance : gM := (⟨"HerbrandTables$Sentence", "makeInstance", "(LHerbrandTables$Reader;I)V"⟩, prog_6_method_10_code, 5, none, [])
abbrev r_Sen_makeInstance : Room := { frames := 3, cells := 0, slots := 0, locals := 72 }
theorem gm_Sen_makeInstance : gMd M_Sen_makeInstance 2 := ⟨w_3_10, w_1_7, by decide +kernel, by decide +kernel, by decide +kernel⟩
abbrev M_Sen_makeInstances : gM := (⟨"HerbrandTables$Sentence", "makeInstances", "(LHerbrandTables$Reader;I)V"⟩, prog_6_method_9_code, 7, none, [])
abbrev r_Sen_makeInstances : Room := { frames := 4, cells := 0, slots := 0, locals := 96 }
theorem gm_Sen_makeInstances : gMd M_Sen_makeInstances 2 := ⟨w_3_6, w_1_7, by decide +kernel, by decide +kernel, by decide +kernel⟩
abbrev M_Sen_tablesOf : gM := (⟨"HerbrandTables$Sentence", "tablesOf", "(I)LHerbrandTables$TableSet;"⟩, prog_6_method_6_code, 3, (some (.object "HerbrandTables$TableSet")), [])
abbrev r_Sen_tablesOf : Room := { frames := 2, cells := 0, slots := 0, locals := 47 }
theorem gm_Sen_tablesOf : gMd M_Sen_tablesOf 1 := ⟨w_2_70, w_1_7, by decide +kernel, by decide +kernel, by decide +kernel⟩
abbrev M_Tab_addTablesWith : gM := (⟨"HerbrandTables$TableSet", "addTablesWith", "(IZ)V"⟩, prog_7_method_13_code, 4, none, [])
abbrev r_Tab_addTablesWith : Room := { frames := 1, cells := 0, slots := 0, locals := 26 }
theorem gm_Tab_addTablesWith : gMd M_Tab_addTablesWith 2 := ⟨w_3_48, w_1_10, by decide +kernel, by decide +kernel, by decide +kernel⟩
abbrev M_Tab_becomeTablesOf : gM := (⟨"HerbrandTables$TableSet", "becomeTablesOf", "(LHerbrandTables$Instance;I)V"⟩, prog_7_method_3_code, 4, none, [])
abbrev r_Tab_becomeTablesOf : Room := { frames := 2, cells := 0, slots := 0, locals := 49 }
theorem gm_Tab_becomeTablesOf : gMd M_Tab_becomeTablesOf 2 := ⟨w_3_40, w_1_10, by decide +kernel, by decide +kernel, by decide +kernel⟩
abbrev M_Tab_fill : gM := (⟨"HerbrandTables$TableSet", "fill", "(I)V"⟩, prog_7_method_2_code, 4, none, [])
abbrev r_Tab_fill : Room := { frames := 1, cells := 0, slots := 0, locals := 24 }
theorem gm_Tab_fill : gMd M_Tab_fill 1 := ⟨w_2_74, w_1_10, by decide +kernel, by decide +kernel, by decide +kernel⟩
abbrev M_Tab_first : gM := (⟨"HerbrandTables$TableSet", "first", "()I"⟩, prog_7_method_7_code, 2, (some .int), [])
abbrev r_Tab_first : Room := { frames := 1, cells := 0, slots := 0, locals := 21 }
theorem gm_Tab_first : gMd M_Tab_first 0 := ⟨w_3_115, w_1_10, by decide +kernel, by decide +kernel, by decide +kernel⟩
abbrev M_Tab_has : gM := (⟨"HerbrandTables$TableSet", "has", "(I)Z"⟩, prog_7_method_12_code, 2, (some .boolean), [])
abbrev r_Tab_has : Room := { frames := 0, cells := 0, slots := 0, locals := 0 }
theorem gm_Tab_has : gMd M_Tab_has 1 := ⟨w_3_119, w_1_10, by decide +kernel, by decide +kernel, by decide +kernel⟩
abbrev M_Tab_hasTableWith : gM := (⟨"HerbrandTables$TableSet", "hasTableWith", "(IZ)Z"⟩, prog_7_method_9_code, 4, (some .boolean), [])
abbrev r_Tab_hasTableWith : Room := { frames := 1, cells := 0, slots := 0, locals := 26 }
theorem gm_Tab_hasTableWith : gMd M_Tab_hasTableWith 2 := ⟨w_3_161, w_1_10, by decide +kernel, by decide +kernel, by decide +kernel⟩
abbrev M_Tab_init : gM := (⟨"HerbrandTables$TableSet", "<init>", "()V"⟩, prog_7_method_1_code, 1, none, [])
abbrev r_Tab_init : Room := { frames := 1, cells := 1, slots := 64, locals := 20 }
theorem gm_Tab_init : gMd M_Tab_init 0 := ⟨w_1_163, w_1_10, by decide +kernel, by decide +kernel, by decide +kernel⟩
abbrev M_Tab_isEmpty : gM := (⟨"HerbrandTables$TableSet", "isEmpty", "()Z"⟩, prog_7_method_5_code, 1, (some .boolean), [])
abbrev r_Tab_isEmpty : Room := { frames := 2, cells := 0, slots := 0, locals := 43 }
theorem gm_Tab_isEmpty : gMd M_Tab_isEmpty 0 := ⟨w_2_90, w_1_10, by decide +kernel, by decide +kernel, by decide +kernel⟩
abbrev M_Tab_keepCommon : gM := (⟨"HerbrandTables$TableSet", "keepCommon", "(LHerbrandTables$TableSet;)V"⟩, prog_7_method_4_code, 3, none, [])
abbrev r_Tab_keepCommon : Room := { frames := 0, cells := 0, slots := 0, locals := 0 }
theorem gm_Tab_keepCommon : gMd M_Tab_keepCommon 1 := ⟨w_2_86, w_1_10, by decide +kernel, by decide +kernel, by decide +kernel⟩
abbrev M_Tab_last : gM := (⟨"HerbrandTables$TableSet", "last", "()I"⟩, prog_7_method_8_code, 2, (some .int), [])
abbrev r_Tab_last : Room := { frames := 1, cells := 0, slots := 0, locals := 21 }
theorem gm_Tab_last : gMd M_Tab_last 0 := ⟨w_3_134, w_1_10, by decide +kernel, by decide +kernel, by decide +kernel⟩
abbrev M_Tab_measure : gM := (⟨"HerbrandTables$TableSet", "measure", "(I)V"⟩, prog_7_method_11_code, 2, none, [])
abbrev r_Tab_measure : Room := { frames := 0, cells := 0, slots := 0, locals := 0 }
theorem gm_Tab_measure : gMd M_Tab_measure 1 := ⟨w_2_78, w_1_10, by decide +kernel, by decide +kernel, by decide +kernel⟩
abbrev M_Tab_size : gM := (⟨"HerbrandTables$TableSet", "size", "()I"⟩, prog_7_method_6_code, 3, (some .int), [])
abbrev r_Tab_size : Room := { frames := 1, cells := 0, slots := 0, locals := 21 }
theorem gm_Tab_size : gMd M_Tab_size 0 := ⟨w_2_94, w_1_10, by decide +kernel, by decide +kernel, by decide +kernel⟩
abbrev M_Tab_trueAtoms : gM := (⟨"HerbrandTables$TableSet", "trueAtoms", "(I)I"⟩, prog_7_method_10_code, 4, (some .int), [])
abbrev r_Tab_trueAtoms : Room := { frames := 0, cells := 0, slots := 0, locals := 0 }
theorem gm_Tab_trueAtoms : gMd M_Tab_trueAtoms 1 := ⟨w_3_123, w_1_10, by decide +kernel, by decide +kernel, by decide +kernel⟩
abbrev M_Tab_wordWith : gM := (⟨"HerbrandTables$TableSet", "wordWith", "(IIZ)J"⟩, prog_7_method_14_code, 7, (some .long), [])
abbrev r_Tab_wordWith : Room := { frames := 0, cells := 0, slots := 0, locals := 0 }
theorem gm_Tab_wordWith : gMd M_Tab_wordWith 3 := ⟨w_3_52, w_1_10, by decide +kernel, by decide +kernel, by decide +kernel⟩
abbrev M_Text_append : gM := (⟨"HerbrandTables$Text", "append", "(J)Z"⟩, prog_8_method_2_code, 5, (some .boolean), [])
abbrev r_Text_append : Room := { frames := 2, cells := 0, slots := 0, locals := 45 }
theorem gm_Text_append : gMd M_Text_append 1 := ⟨w_1_230, w_1_2, by decide +kernel, by decide +kernel, by decide +kernel⟩
abbrev M_Text_at : gM := (⟨"HerbrandTables$Text", "at", "(I)C"⟩, prog_8_method_4_code, 2, (some .char), [])
abbrev r_Text_at : Room := { frames := 0, cells := 0, slots := 0, locals := 0 }
theorem gm_Text_at : gMd M_Text_at 1 := ⟨w_2_140, w_1_2, by decide +kernel, by decide +kernel, by decide +kernel⟩
abbrev M_Text_character : gM := (⟨"HerbrandTables$Text", "character", "(JI)I"⟩, prog_8_method_6_code, 3, (some .int), [])
abbrev r_Text_character : Room := { frames := 0, cells := 0, slots := 0, locals := 0 }
theorem gm_Text_character : gMd M_Text_character 2 := ⟨w_1_236, w_1_2, by decide +kernel, by decide +kernel, by decide +kernel⟩
abbrev M_Text_countCharacters : gM := (⟨"HerbrandTables$Text", "countCharacters", "(J)I"⟩, prog_8_method_5_code, 4, (some .int), [])
abbrev r_Text_countCharacters : Room := { frames := 1, cells := 0, slots := 0, locals := 22 }
theorem gm_Text_countCharacters : gMd M_Text_countCharacters 1 := ⟨w_1_233, w_1_2, by decide +kernel, by decide +kernel, by decide +kernel⟩
abbrev M_Text_empty : gM := (⟨"HerbrandTables$Text", "empty", "()I"⟩, prog_8_method_3_code, 2, (some .int), [])
abbrev r_Text_empty : Room := { frames := 0, cells := 0, slots := 0, locals := 0 }
theorem gm_Text_empty : gMd M_Text_empty 0 := ⟨w_2_4, w_1_2, by decide +kernel, by decide +kernel, by decide +kernel⟩
abbrev M_Text_init : gM := (⟨"HerbrandTables$Text", "<init>", "()V"⟩, prog_8_method_1_code, 1, none, [])
abbrev r_Text_init : Room := { frames := 1, cells := 1, slots := 96, locals := 20 }
theorem gm_Text_init : gMd M_Text_init 0 := ⟨w_1_35, w_1_2, by decide +kernel, by decide +kernel, by decide +kernel⟩
abbrev M_Voc_addConstant : gM := (⟨"HerbrandTables$Vocabulary", "addConstant", "(I)V"⟩, prog_9_method_5_code, 2, none, [])
abbrev r_Voc_addConstant : Room := { frames := 2, cells := 0, slots := 0, locals := 42 }
theorem gm_Voc_addConstant : gMd M_Voc_addConstant 1 := ⟨w_2_154, w_1_4, by decide +kernel, by decide +kernel, by decide +kernel⟩
abbrev M_Voc_addPredicate : gM := (⟨"HerbrandTables$Vocabulary", "addPredicate", "(II)V"⟩, prog_9_method_4_code, 3, none, [])
abbrev r_Voc_addPredicate : Room := { frames := 2, cells := 0, slots := 0, locals := 42 }
theorem gm_Voc_addPredicate : gMd M_Voc_addPredicate 2 := ⟨w_2_158, w_1_4, by decide +kernel, by decide +kernel, by decide +kernel⟩
abbrev M_Voc_become : gM := (⟨"HerbrandTables$Vocabulary", "become", "(LHerbrandTables$Vocabulary;)V"⟩, prog_9_method_3_code, 2, none, [])
abbrev r_Voc_become : Room := { frames := 2, cells := 0, slots := 0, locals := 42 }
theorem gm_Voc_become : gMd M_Voc_become 1 := ⟨w_2_234, w_1_4, by decide +kernel, by decide +kernel, by decide +kernel⟩
abbrev M_Voc_clear : gM := (⟨"HerbrandTables$Vocabulary", "clear", "()V"⟩, prog_9_method_2_code, 1, none, [])
abbrev r_Voc_clear : Room := { frames := 2, cells := 0, slots := 0, locals := 42 }
theorem gm_Voc_clear : gMd M_Voc_clear 0 := ⟨w_2_116, w_1_4, by decide +kernel, by decide +kernel, by decide +kernel⟩
abbrev M_Voc_countAtoms : gM := (⟨"HerbrandTables$Vocabulary", "countAtoms", "(I)I"⟩, prog_9_method_10_code, 2, (some .int), [])
abbrev r_Voc_countAtoms : Room := { frames := 0, cells := 0, slots := 0, locals := 0 }
theorem gm_Voc_countAtoms : gMd M_Voc_countAtoms 1 := ⟨w_2_127, w_1_4, by decide +kernel, by decide +kernel, by decide +kernel⟩
abbrev M_Voc_findAtom : gM := (⟨"HerbrandTables$Vocabulary", "findAtom", "(III)I"⟩, prog_9_method_8_code, 7, (some .int), [])
abbrev r_Voc_findAtom : Room := { frames := 2, cells := 0, slots := 0, locals := 43 }
theorem gm_Voc_findAtom : gMd M_Voc_findAtom 3 := ⟨w_2_24, w_1_4, by decide +kernel, by decide +kernel, by decide +kernel⟩
abbrev M_Voc_findThing : gM := (⟨"HerbrandTables$Vocabulary", "findThing", "(I)I"⟩, prog_9_method_6_code, 4, (some .int), [])
abbrev r_Voc_findThing : Room := { frames := 1, cells := 0, slots := 0, locals := 20 }
theorem gm_Voc_findThing : gMd M_Voc_findThing 1 := ⟨w_2_28, w_1_4, by decide +kernel, by decide +kernel, by decide +kernel⟩
abbrev M_Voc_init : gM := (⟨"HerbrandTables$Vocabulary", "<init>", "()V"⟩, prog_9_method_1_code, 1, none, [])
abbrev r_Voc_init : Room := { frames := 1, cells := 2, slots := 8, locals := 23 }
theorem gm_Voc_init : gMd M_Voc_init 0 := ⟨w_1_56, w_1_4, by decide +kernel, by decide +kernel, by decide +kernel⟩
abbrev M_Voc_number : gM := (⟨"HerbrandTables$Vocabulary", "number", "(III)I"⟩, prog_9_method_7_code, 4, (some .int), [])
abbrev r_Voc_number : Room := { frames := 0, cells := 0, slots := 0, locals := 0 }
theorem gm_Voc_number : gMd M_Voc_number 3 := ⟨w_2_38, w_1_4, by decide +kernel, by decide +kernel, by decide +kernel⟩
abbrev M_Voc_recount : gM := (⟨"HerbrandTables$Vocabulary", "recount", "()V"⟩, prog_9_method_9_code, 2, none, [])
abbrev r_Voc_recount : Room := { frames := 1, cells := 0, slots := 0, locals := 21 }
theorem gm_Voc_recount : gMd M_Voc_recount 0 := ⟨w_2_120, w_1_4, by decide +kernel, by decide +kernel, by decide +kernel⟩
theorem f_HT_26 : gFd "HerbrandTables" 26 0 2 (.object "HerbrandTables$Sentence") true := ⟨_, _, _, _, gc_HT, by decide, rfl, rfl, Or.inl w_1_212⟩
theorem fl_HT_26 : Cond.fieldLink "HerbrandTables" 26 "HerbrandTables" "sentence" "LHerbrandTables$Sentence;" ∈ gW := w_1_212
theorem f_HT_59 : gFd "HerbrandTables" 59 5 0 (.object "HerbrandTables$Vocabulary") true := ⟨_, _, _, _, gc_Sen, by decide, rfl, rfl, Or.inr ⟨_, w_1_177⟩⟩
theorem gv_HT_68 : gVl "HerbrandTables" 68 M_Voc_findAtom.1 := ⟨Or.inl w_2_21, w_2_22, w_2_23⟩
theorem f_HT_63 : gFd "HerbrandTables" 63 2 4 (.int) false := ⟨_, _, _, _, gc_Voc, by decide, rfl, rfl, Or.inr ⟨_, w_1_69⟩⟩
theorem f_HT_56 : gFd "HerbrandTables" 56 5 1 (.int) false := ⟨_, _, _, _, gc_Sen, by decide, rfl, rfl, Or.inr ⟨_, w_1_179⟩⟩
theorem gv_HT_86 : gVl "HerbrandTables" 86 M_HT_requireSentence.1 := ⟨Or.inl w_3_63, w_3_65, w_s_12⟩
theorem gv_HT_80 : gVl "HerbrandTables" 80 M_Sen_everyClause.1 := ⟨Or.inl w_2_59, w_2_60, w_2_61⟩
theorem nx_HT_112 : Cond.classLink "HerbrandTables" 112 "java/lang/IndexOutOfBoundsException" ∈ gW := w_3_143
-- HerbrandTables 114 is ('java/lang/IndexOutOfBoundsException', '<init>', '()V')
theorem gv_HT_83 : gVl "HerbrandTables" 83 M_Sen_canHold.1 := ⟨Or.inl w_2_63, w_2_64, w_2_65⟩
theorem gv_HT_119 : gVl "HerbrandTables" 119 M_Sen_canHoldWithoutAnyOne.1 := ⟨Or.inl w_3_176, w_3_177, w_3_178⟩
theorem f_HT_12 : gFd "HerbrandTables" 12 0 0 (.object "HerbrandTables$Text") true := ⟨_, _, _, _, gc_HT, by decide, rfl, rfl, Or.inl w_1_210⟩
theorem fl_HT_12 : Cond.fieldLink "HerbrandTables" 12 "HerbrandTables" "text" "LHerbrandTables$Text;" ∈ gW := w_1_210
theorem gv_HT_38 : gVl "HerbrandTables" 38 M_Text_empty.1 := ⟨Or.inl w_2_1, w_2_2, w_2_3⟩
theorem f_HT_30 : gFd "HerbrandTables" 30 0 3 (.int) false := ⟨_, _, _, _, gc_HT, by decide, rfl, rfl, Or.inl w_1_213⟩
theorem gv_HT_98 : gVl "HerbrandTables" 98 M_HT_someTables.1 := ⟨Or.inl w_3_92, w_3_94, w_s_13⟩
theorem gv_HT_115 : gVl "HerbrandTables" 115 M_Tab_hasTableWith.1 := ⟨Or.inl w_3_158, w_3_159, w_3_160⟩
theorem gv_HT_109 : gVl "HerbrandTables" 109 M_Tab_last.1 := ⟨Or.inl w_3_131, w_3_132, w_3_133⟩
theorem gv_HT_105 : gVl "HerbrandTables" 105 M_Tab_trueAtoms.1 := ⟨Or.inl w_3_120, w_3_121, w_3_122⟩
-- HerbrandTables 3 is ('java/lang/Object', '<init>', '()V')
theorem go_HT_3 : Cond.methodLink "HerbrandTables" 3 Lib.objectInit ∈ gW := w_1_28
theorem nw_HT_9 : gNw "HerbrandTables" 9 1 [.null, .int 0] := ⟨_, _, _, _, gc_Text, w_1_31, w_1_32, w_1_2, by intro j hj; match j, hj with
  | 0, _ => rfl
  | 1, _ => rfl
  | n + 2, h => exact absurd h (by omega), rfl⟩
theorem gi_HT_11 : gIl "HerbrandTables" 11 M_Text_init.1 := ⟨Or.inr ⟨_, w_1_33⟩, w_1_34, rfl⟩
theorem nw_HT_16 : gNw "HerbrandTables" 16 4 [.null, .null, .null, .int 0, .int 0] := ⟨_, _, _, _, gc_Rd, w_1_46, w_1_47, w_1_3, by intro j hj; match j, hj with
  | 0, _ => rfl
  | 1, _ => rfl
  | 2, _ => rfl
  | 3, _ => rfl
  | 4, _ => rfl
  | n + 5, h => exact absurd h (by omega), rfl⟩
theorem gi_HT_18 : gIl "HerbrandTables" 18 M_Rd_init.1 := ⟨Or.inl w_1_48, w_1_49, rfl⟩
theorem f_HT_19 : gFd "HerbrandTables" 19 0 1 (.object "HerbrandTables$Reader") true := ⟨_, _, _, _, gc_HT, by decide, rfl, rfl, Or.inl w_1_211⟩
theorem fl_HT_19 : Cond.fieldLink "HerbrandTables" 19 "HerbrandTables" "reader" "LHerbrandTables$Reader;" ∈ gW := w_1_211
theorem nw_HT_23 : gNw "HerbrandTables" 23 5 [.null, .int 0, .null, .null, .null, .null, .null, .null, .null, .null] := ⟨_, _, _, _, gc_Sen, w_1_123, w_1_124, w_1_7, by intro j hj; match j, hj with
  | 0, _ => rfl
  | 1, _ => rfl
  | 2, _ => rfl
  | 3, _ => rfl
  | 4, _ => rfl
  | 5, _ => rfl
  | 6, _ => rfl
  | 7, _ => rfl
  | 8, _ => rfl
  | 9, _ => rfl
  | n + 10, h => exact absurd h (by omega), rfl⟩
theorem gi_HT_25 : gIl "HerbrandTables" 25 M_Sen_init.1 := ⟨Or.inl w_1_125, w_1_126, rfl⟩
theorem gv_HT_53 : gVl "HerbrandTables" 53 M_Sen_instanceCount.1 := ⟨Or.inl w_2_43, w_2_44, w_2_45⟩
theorem gv_HT_72 : gVl "HerbrandTables" 72 M_Sen_hasClause.1 := ⟨Or.inl w_2_51, w_2_52, w_2_53⟩
theorem f_HT_76 : gFd "HerbrandTables" 76 5 2 (.array .int) true := ⟨_, _, _, _, gc_Sen, by decide, rfl, rfl, Or.inr ⟨_, w_1_181⟩⟩
theorem gv_HT_102 : gVl "HerbrandTables" 102 M_Tab_first.1 := ⟨Or.inl w_3_112, w_3_113, w_3_114⟩
theorem gv_HT_42 : gVl "HerbrandTables" 42 M_Rd_findFault.1 := ⟨Or.inl w_2_109, w_2_110, w_2_111⟩
theorem nx_HT_46 : Cond.classLink "HerbrandTables" 46 "java/lang/IllegalArgumentException" ∈ gW := w_2_163
-- HerbrandTables 48 is ('java/lang/IllegalArgumentException', '<init>', '()V')
theorem gv_HT_49 : gVl "HerbrandTables" 49 M_Sen_become.1 := ⟨Or.inl w_2_227, w_2_228, w_2_229⟩
theorem nx_HT_122 : Cond.classLink "HerbrandTables" 122 "java/lang/IllegalStateException" ∈ gW := w_3_67
-- HerbrandTables 124 is ('java/lang/IllegalStateException', '<init>', '()V')
theorem gv_HT_89 : gVl "HerbrandTables" 89 M_Sen_tablesOf.1 := ⟨Or.inl w_3_82, w_2_68, w_2_69⟩
theorem gv_HT_125 : gVl "HerbrandTables" 125 M_Tab_isEmpty.1 := ⟨Or.inl w_3_96, w_2_88, w_2_89⟩
theorem nx_HT_129 : Cond.classLink "HerbrandTables" 129 "java/util/NoSuchElementException" ∈ gW := w_3_97
-- HerbrandTables 131 is ('java/util/NoSuchElementException', '<init>', '()V')
theorem gv_HT_93 : gVl "HerbrandTables" 93 M_Tab_size.1 := ⟨Or.inl w_3_83, w_2_92, w_2_93⟩
theorem gv_HT_34 : gVl "HerbrandTables" 34 M_Text_append.1 := ⟨Or.inl w_1_227, w_1_228, w_1_229⟩
theorem f_Ins_15 : gFd "HerbrandTables$Instance" 15 6 1 (.int) false := ⟨_, _, _, _, gc_Ins, by decide, rfl, rfl, Or.inl w_1_152⟩
theorem f_Ins_9 : gFd "HerbrandTables$Instance" 9 6 0 (.int) false := ⟨_, _, _, _, gc_Ins, by decide, rfl, rfl, Or.inl w_1_151⟩
-- HerbrandTables$Instance 3 is ('java/lang/Object', '<init>', '()V')
theorem go_Ins_3 : Cond.methodLink "HerbrandTables$Instance" 3 Lib.objectInit ∈ gW := w_1_150
theorem k_Int_265 : Cond.constant "java/lang/Integer" 265 1431655765 ∈ gW := w_2_32
theorem k_Int_266 : Cond.constant "java/lang/Integer" 266 858993459 ∈ gW := w_2_33
theorem k_Int_267 : Cond.constant "java/lang/Integer" 267 252645135 ∈ gW := w_2_34
theorem f_Iset_13 : gFd "HerbrandTables$InstanceSet" 13 7 1 (.int) false := ⟨_, _, _, _, gc_Iset, by decide, rfl, rfl, Or.inl w_1_138⟩
theorem f_Iset_7 : gFd "HerbrandTables$InstanceSet" 7 7 0 (.array .int) true := ⟨_, _, _, _, gc_Iset, by decide, rfl, rfl, Or.inl w_1_137⟩
theorem fl_Iset_7 : Cond.fieldLink "HerbrandTables$InstanceSet" 7 "HerbrandTables$InstanceSet" "codes" "[I" ∈ gW := w_1_137
-- HerbrandTables$InstanceSet 1 is ('java/lang/Object', '<init>', '()V')
theorem go_Iset_1 : Cond.methodLink "HerbrandTables$InstanceSet" 1 Lib.objectInit ∈ gW := w_1_136
theorem gv_Law_38 : gVl "HerbrandTablesLaw" 38 M_HT_core.1 := ⟨Or.inl w_3_172, w_3_173, w_3_174⟩
theorem gv_Law_28 : gVl "HerbrandTablesLaw" 28 M_HT_forced.1 := ⟨Or.inl w_3_139, w_3_140, w_3_141⟩
theorem gv_Law_25 : gVl "HerbrandTablesLaw" 25 M_HT_greatest.1 := ⟨Or.inl w_3_127, w_3_128, w_3_129⟩
theorem nw_Law_8 : gNw "HerbrandTablesLaw" 8 0 [.null, .null, .null, .int 0] := ⟨_, _, _, _, gc_HT, w_1_23, w_1_24, w_1_1, by intro j hj; match j, hj with
  | 0, _ => rfl
  | 1, _ => rfl
  | 2, _ => rfl
  | 3, _ => rfl
  | n + 4, h => exact absurd h (by omega), rfl⟩
theorem gi_Law_41 : gIl "HerbrandTablesLaw" 41 M_HT_init.1 := ⟨Or.inl w_1_25, w_1_26, rfl⟩
theorem nw_Law_42 : gNw "HerbrandTablesLaw" 42 9 [.int 0, .int 0, .null, .int 0, .int 0, .null, .null, .null, .null, .null, .null, .int 0, .int 0, .int 0, .null, .null, .null, .null, .null, .null, .int 0, .int 0, .null, .null, .null] := ⟨_, _, _, _, gc_Mod, w_3_181, w_3_182, w_1_11, by intro j hj; match j, hj with
  | 0, _ => rfl
  | 1, _ => rfl
  | 2, _ => rfl
  | 3, _ => rfl
  | 4, _ => rfl
  | 5, _ => rfl
  | 6, _ => rfl
  | 7, _ => rfl
  | 8, _ => rfl
  | 9, _ => rfl
  | 10, _ => rfl
  | 11, _ => rfl
  | 12, _ => rfl
  | 13, _ => rfl
  | 14, _ => rfl
  | 15, _ => rfl
  | 16, _ => rfl
  | 17, _ => rfl
  | 18, _ => rfl
  | 19, _ => rfl
  | 20, _ => rfl
  | 21, _ => rfl
  | 22, _ => rfl
  | 23, _ => rfl
  | 24, _ => rfl
  | n + 25, h => exact absurd h (by omega), rfl⟩
theorem gi_Law_44 : gIl "HerbrandTablesLaw" 44 M_Mod_init.1 := ⟨Or.inl w_3_183, w_3_184, rfl⟩
theorem k_Law_45 : Cond.constantLong "HerbrandTablesLaw" 45 4294967295 ∈ gW := w_4_175
theorem gv_Law_47 : gVl "HerbrandTablesLaw" 47 M_HT_type.1 := ⟨Or.inl w_1_223, w_1_224, w_1_225⟩
theorem gv_Law_51 : gVl "HerbrandTablesLaw" 51 M_Mod_type.1 := ⟨Or.inl w_4_28, w_4_29, w_4_30⟩
theorem gv_Law_52 : gVl "HerbrandTablesLaw" 52 M_HT_erase.1 := ⟨Or.inl w_1_237, w_1_238, w_1_239⟩
theorem gv_Law_55 : gVl "HerbrandTablesLaw" 55 M_Mod_erase.1 := ⟨Or.inl w_4_33, w_4_34, w_4_35⟩
theorem gs_Law_56 : gSl "HerbrandTablesLaw" 56 M_Law_read.1 := ⟨Or.inl w_2_101, w_2_102⟩
theorem gv_Law_61 : gVl "HerbrandTablesLaw" 61 M_Mod_read.1 := ⟨Or.inl w_4_37, w_4_38, w_4_39⟩
theorem gv_Law_62 : gVl "HerbrandTablesLaw" 62 M_Mod_thrown.1 := ⟨Or.inl w_4_24, w_4_25, w_4_26⟩
theorem gv_Law_65 : gVl "HerbrandTablesLaw" 65 M_HT_fault.1 := ⟨Or.inl w_2_5, w_2_6, w_2_7⟩
theorem gv_Law_68 : gVl "HerbrandTablesLaw" 68 M_Mod_fault.1 := ⟨Or.inl w_4_103, w_4_104, w_4_105⟩
theorem gv_Law_69 : gVl "HerbrandTablesLaw" 69 M_HT_clauses.1 := ⟨Or.inl w_2_9, w_2_10, w_2_11⟩
theorem gv_Law_72 : gVl "HerbrandTablesLaw" 72 M_Mod_clauses.1 := ⟨Or.inl w_4_107, w_4_108, w_4_109⟩
theorem gv_Law_73 : gVl "HerbrandTablesLaw" 73 M_HT_atoms.1 := ⟨Or.inl w_2_13, w_2_14, w_2_15⟩
theorem gv_Law_76 : gVl "HerbrandTablesLaw" 76 M_Mod_atoms.1 := ⟨Or.inl w_4_111, w_4_112, w_4_113⟩
theorem gv_Law_77 : gVl "HerbrandTablesLaw" 77 M_HT_atom.1 := ⟨Or.inl w_2_17, w_2_18, w_2_19⟩
theorem gv_Law_81 : gVl "HerbrandTablesLaw" 81 M_Mod_atom.1 := ⟨Or.inl w_4_115, w_4_116, w_4_117⟩
theorem gv_Law_82 : gVl "HerbrandTablesLaw" 82 M_HT_instances.1 := ⟨Or.inl w_2_39, w_2_40, w_2_41⟩
theorem gv_Law_85 : gVl "HerbrandTablesLaw" 85 M_Mod_instances.1 := ⟨Or.inl w_4_119, w_4_120, w_4_121⟩
theorem gv_Law_86 : gVl "HerbrandTablesLaw" 86 M_HT_instancesOf.1 := ⟨Or.inl w_2_47, w_2_48, w_2_49⟩
theorem gv_Law_89 : gVl "HerbrandTablesLaw" 89 M_Mod_instancesOf.1 := ⟨Or.inl w_4_123, w_4_124, w_4_125⟩
theorem gv_Law_90 : gVl "HerbrandTablesLaw" 90 M_HT_holds.1 := ⟨Or.inl w_2_55, w_2_56, w_2_57⟩
theorem gv_Law_94 : gVl "HerbrandTablesLaw" 94 M_Mod_holds.1 := ⟨Or.inl w_4_131, w_4_132, w_4_133⟩
theorem gs_Law_95 : gSl "HerbrandTablesLaw" 95 M_Law_tables.1 := ⟨Or.inl w_3_55, w_3_56⟩
theorem gv_Law_97 : gVl "HerbrandTablesLaw" 97 M_Mod_tables.1 := ⟨Or.inl w_4_147, w_4_148, w_4_149⟩
theorem gs_Law_98 : gSl "HerbrandTablesLaw" 98 M_Law_least.1 := ⟨Or.inl w_3_84, w_3_85⟩
theorem gv_Law_100 : gVl "HerbrandTablesLaw" 100 M_Mod_least.1 := ⟨Or.inl w_4_151, w_4_152, w_4_153⟩
theorem gs_Law_101 : gSl "HerbrandTablesLaw" 101 M_Law_greatest.1 := ⟨Or.inl w_3_124, w_3_125⟩
theorem gv_Law_103 : gVl "HerbrandTablesLaw" 103 M_Mod_greatest.1 := ⟨Or.inl w_4_159, w_4_160, w_4_161⟩
theorem gs_Law_104 : gSl "HerbrandTablesLaw" 104 M_Law_forced.1 := ⟨Or.inl w_3_135, w_3_136⟩
theorem gv_Law_107 : gVl "HerbrandTablesLaw" 107 M_Mod_forced.1 := ⟨Or.inl w_4_163, w_4_164, w_4_165⟩
theorem gs_Law_108 : gSl "HerbrandTablesLaw" 108 M_Law_without.1 := ⟨Or.inl w_3_162, w_3_163⟩
theorem gv_Law_110 : gVl "HerbrandTablesLaw" 110 M_Mod_without.1 := ⟨Or.inl w_4_167, w_4_168, w_4_169⟩
theorem gs_Law_111 : gSl "HerbrandTablesLaw" 111 M_Law_core.1 := ⟨Or.inl w_3_169, w_3_170⟩
theorem gv_Law_113 : gVl "HerbrandTablesLaw" 113 M_Mod_core.1 := ⟨Or.inl w_4_171, w_4_172, w_4_173⟩
theorem gv_Law_20 : gVl "HerbrandTablesLaw" 20 M_HT_least.1 := ⟨Or.inl w_3_88, w_3_89, w_3_90⟩
theorem gv_Law_7 : gVl "HerbrandTablesLaw" 7 M_HT_read.1 := ⟨Or.inl w_2_105, w_2_106, w_2_107⟩
theorem gv_Law_15 : gVl "HerbrandTablesLaw" 15 M_HT_tables.1 := ⟨Or.inl w_3_59, w_3_60, w_3_61⟩
theorem gv_Law_34 : gVl "HerbrandTablesLaw" 34 M_HT_without.1 := ⟨Or.inl w_3_165, w_3_166, w_3_167⟩
-- HerbrandTables$Literal 3 is ('java/lang/Object', '<init>', '()V')
theorem go_Lit_3 : Cond.methodLink "HerbrandTables$Literal" 3 Lib.objectInit ∈ gW := w_1_89
theorem f_Lit_9 : gFd "HerbrandTables$Literal" 9 3 2 (.array .int) true := ⟨_, _, _, _, gc_Lit, by decide, rfl, rfl, Or.inl w_1_94⟩
theorem fl_Lit_9 : Cond.fieldLink "HerbrandTables$Literal" 9 "HerbrandTables$Literal" "arguments" "[I" ∈ gW := w_1_94
theorem k_Lng_314 : Cond.constantLong "java/lang/Long" 314 6148914691236517205 ∈ gW := w_2_98
theorem k_Lng_316 : Cond.constantLong "java/lang/Long" 316 3689348814741910323 ∈ gW := w_2_99
theorem k_Lng_318 : Cond.constantLong "java/lang/Long" 318 1085102592571150095 ∈ gW := w_2_100
theorem f_Mod_105 : gFd "HerbrandTablesModel" 105 9 13 (.int) false := ⟨_, _, _, _, gc_Mod, by decide, rfl, rfl, Or.inl w_3_200⟩
theorem f_Mod_57 : gFd "HerbrandTablesModel" 57 9 23 (.array .int) true := ⟨_, _, _, _, gc_Mod, by decide, rfl, rfl, Or.inl w_3_210⟩
theorem fl_Mod_57 : Cond.fieldLink "HerbrandTablesModel" 57 "HerbrandTablesModel" "many" "[I" ∈ gW := w_3_210
theorem f_Mod_54 : gFd "HerbrandTablesModel" 54 9 22 (.array .int) true := ⟨_, _, _, _, gc_Mod, by decide, rfl, rfl, Or.inl w_3_209⟩
theorem fl_Mod_54 : Cond.fieldLink "HerbrandTablesModel" 54 "HerbrandTablesModel" "sets" "[I" ∈ gW := w_3_209
theorem gv_Mod_125 : gVl "HerbrandTablesModel" 125 M_Mod_has.1 := ⟨Or.inl w_4_88, w_4_90, w_s_23⟩
theorem f_Mod_63 : gFd "HerbrandTablesModel" 63 9 0 (.int) false := ⟨_, _, _, _, gc_Mod, by decide, rfl, rfl, Or.inl w_3_187⟩
theorem f_Mod_101 : gFd "HerbrandTablesModel" 101 9 12 (.boolean) false := ⟨_, _, _, _, gc_Mod, by decide, rfl, rfl, Or.inl w_3_199⟩
theorem f_Mod_51 : gFd "HerbrandTablesModel" 51 9 19 (.array .int) true := ⟨_, _, _, _, gc_Mod, by decide, rfl, rfl, Or.inl w_3_206⟩
theorem fl_Mod_51 : Cond.fieldLink "HerbrandTablesModel" 51 "HerbrandTablesModel" "widths" "[I" ∈ gW := w_3_206
theorem gv_Mod_118 : gVl "HerbrandTablesModel" 118 M_Mod_isThing.1 := ⟨Or.inl w_4_73, w_4_75, w_s_20⟩
theorem gv_Mod_114 : gVl "HerbrandTablesModel" 114 M_Mod_atomOf.1 := ⟨Or.inl w_4_84, w_4_86, w_s_22⟩
theorem f_Mod_98 : gFd "HerbrandTablesModel" 98 9 20 (.int) false := ⟨_, _, _, _, gc_Mod, by decide, rfl, rfl, Or.inl w_3_207⟩
theorem gs_Mod_71 : gSl "HerbrandTablesModel" 71 M_Mod_bits.1 := ⟨Or.inl w_4_62, w_4_63⟩
theorem f_Mod_108 : gFd "HerbrandTablesModel" 108 9 21 (.int) false := ⟨_, _, _, _, gc_Mod, by decide, rfl, rfl, Or.inl w_3_208⟩
theorem f_Mod_68 : gFd "HerbrandTablesModel" 68 9 1 (.int) false := ⟨_, _, _, _, gc_Mod, by decide, rfl, rfl, Or.inl w_3_188⟩
theorem f_Mod_7 : gFd "HerbrandTablesModel" 7 9 2 (.array .int) true := ⟨_, _, _, _, gc_Mod, by decide, rfl, rfl, Or.inl w_3_189⟩
theorem fl_Mod_7 : Cond.fieldLink "HerbrandTablesModel" 7 "HerbrandTablesModel" "text" "[I" ∈ gW := w_3_189
theorem gv_Mod_155 : gVl "HerbrandTablesModel" 155 M_Mod_every.1 := ⟨Or.inl w_4_135, w_4_137, w_s_27⟩
theorem gv_Mod_158 : gVl "HerbrandTablesModel" 158 M_Mod_count.1 := ⟨Or.inl w_4_139, w_4_141, w_s_28⟩
theorem gv_Mod_152 : gVl "HerbrandTablesModel" 152 M_Mod_holdsIn.1 := ⟨Or.inl w_4_143, w_4_145, w_s_29⟩
theorem f_Mod_13 : gFd "HerbrandTablesModel" 13 9 3 (.int) false := ⟨_, _, _, _, gc_Mod, by decide, rfl, rfl, Or.inl w_3_190⟩
theorem gv_Mod_161 : gVl "HerbrandTablesModel" 161 M_Mod_tableOf.1 := ⟨Or.inl w_4_155, w_4_157, w_s_30⟩
theorem f_Mod_60 : gFd "HerbrandTablesModel" 60 9 24 (.array .int) true := ⟨_, _, _, _, gc_Mod, by decide, rfl, rfl, Or.inl w_3_211⟩
theorem fl_Mod_60 : Cond.fieldLink "HerbrandTablesModel" 60 "HerbrandTablesModel" "holding" "[I" ∈ gW := w_3_211
-- HerbrandTablesModel 1 is ('java/lang/Object', '<init>', '()V')
theorem go_Mod_1 : Cond.methodLink "HerbrandTablesModel" 1 Lib.objectInit ∈ gW := w_3_186
theorem f_Mod_17 : gFd "HerbrandTablesModel" 17 9 5 (.array .int) true := ⟨_, _, _, _, gc_Mod, by decide, rfl, rfl, Or.inl w_3_192⟩
theorem fl_Mod_17 : Cond.fieldLink "HerbrandTablesModel" 17 "HerbrandTablesModel" "newSizes" "[I" ∈ gW := w_3_192
theorem f_Mod_20 : gFd "HerbrandTablesModel" 20 9 6 (.array .int) true := ⟨_, _, _, _, gc_Mod, by decide, rfl, rfl, Or.inl w_3_193⟩
theorem fl_Mod_20 : Cond.fieldLink "HerbrandTablesModel" 20 "HerbrandTablesModel" "newPredicates" "[I" ∈ gW := w_3_193
theorem f_Mod_23 : gFd "HerbrandTablesModel" 23 9 7 (.array .boolean) true := ⟨_, _, _, _, gc_Mod, by decide, rfl, rfl, Or.inl w_3_194⟩
theorem fl_Mod_23 : Cond.fieldLink "HerbrandTablesModel" 23 "HerbrandTablesModel" "newTurned" "[Z" ∈ gW := w_3_194
theorem f_Mod_27 : gFd "HerbrandTablesModel" 27 9 8 (.array .int) true := ⟨_, _, _, _, gc_Mod, by decide, rfl, rfl, Or.inl w_3_195⟩
theorem fl_Mod_27 : Cond.fieldLink "HerbrandTablesModel" 27 "HerbrandTablesModel" "newOnes" "[I" ∈ gW := w_3_195
theorem f_Mod_30 : gFd "HerbrandTablesModel" 30 9 9 (.array .int) true := ⟨_, _, _, _, gc_Mod, by decide, rfl, rfl, Or.inl w_3_196⟩
theorem fl_Mod_30 : Cond.fieldLink "HerbrandTablesModel" 30 "HerbrandTablesModel" "newTwos" "[I" ∈ gW := w_3_196
theorem f_Mod_33 : gFd "HerbrandTablesModel" 33 9 10 (.array .int) true := ⟨_, _, _, _, gc_Mod, by decide, rfl, rfl, Or.inl w_3_197⟩
theorem fl_Mod_33 : Cond.fieldLink "HerbrandTablesModel" 33 "HerbrandTablesModel" "newWidths" "[I" ∈ gW := w_3_197
theorem f_Mod_36 : gFd "HerbrandTablesModel" 36 9 14 (.array .int) true := ⟨_, _, _, _, gc_Mod, by decide, rfl, rfl, Or.inl w_3_201⟩
theorem fl_Mod_36 : Cond.fieldLink "HerbrandTablesModel" 36 "HerbrandTablesModel" "sizes" "[I" ∈ gW := w_3_201
theorem f_Mod_39 : gFd "HerbrandTablesModel" 39 9 15 (.array .int) true := ⟨_, _, _, _, gc_Mod, by decide, rfl, rfl, Or.inl w_3_202⟩
theorem fl_Mod_39 : Cond.fieldLink "HerbrandTablesModel" 39 "HerbrandTablesModel" "predicates" "[I" ∈ gW := w_3_202
theorem f_Mod_42 : gFd "HerbrandTablesModel" 42 9 16 (.array .boolean) true := ⟨_, _, _, _, gc_Mod, by decide, rfl, rfl, Or.inl w_3_203⟩
theorem fl_Mod_42 : Cond.fieldLink "HerbrandTablesModel" 42 "HerbrandTablesModel" "turned" "[Z" ∈ gW := w_3_203
theorem f_Mod_45 : gFd "HerbrandTablesModel" 45 9 17 (.array .int) true := ⟨_, _, _, _, gc_Mod, by decide, rfl, rfl, Or.inl w_3_204⟩
theorem fl_Mod_45 : Cond.fieldLink "HerbrandTablesModel" 45 "HerbrandTablesModel" "ones" "[I" ∈ gW := w_3_204
theorem f_Mod_48 : gFd "HerbrandTablesModel" 48 9 18 (.array .int) true := ⟨_, _, _, _, gc_Mod, by decide, rfl, rfl, Or.inl w_3_205⟩
theorem fl_Mod_48 : Cond.fieldLink "HerbrandTablesModel" 48 "HerbrandTablesModel" "twos" "[I" ∈ gW := w_3_205
theorem gs_Mod_111 : gSl "HerbrandTablesModel" 111 M_Mod_valueOf.1 := ⟨Or.inl w_4_81, w_4_82⟩
theorem gv_Mod_146 : gVl "HerbrandTablesModel" 146 M_Mod_allInstances.1 := ⟨Or.inl w_4_99, w_4_101, w_s_25⟩
theorem gv_Mod_149 : gVl "HerbrandTablesModel" 149 M_Mod_isClause.1 := ⟨Or.inl w_4_127, w_4_129, w_s_26⟩
theorem gv_Mod_122 : gVl "HerbrandTablesModel" 122 M_Mod_instance.1 := ⟨Or.inl w_4_77, w_4_79, w_s_21⟩
theorem gv_Mod_132 : gVl "HerbrandTablesModel" 132 M_Mod_readText.1 := ⟨Or.inl w_4_41, w_4_43, w_s_15⟩
theorem gv_Mod_136 : gVl "HerbrandTablesModel" 136 M_Mod_take.1 := ⟨Or.inl w_4_65, w_4_67, w_s_18⟩
theorem gv_Mod_139 : gVl "HerbrandTablesModel" 139 M_Mod_makeInstances.1 := ⟨Or.inl w_4_69, w_4_71, w_s_19⟩
theorem gv_Mod_143 : gVl "HerbrandTablesModel" 143 M_Mod_tryTables.1 := ⟨Or.inl w_4_92, w_4_94, w_s_24⟩
theorem gv_Mod_75 : gVl "HerbrandTablesModel" 75 M_Mod_charAt.1 := ⟨Or.inl w_4_49, w_4_51, w_s_17⟩
theorem gs_Mod_78 : gSl "HerbrandTablesModel" 78 M_Mod_predicateOf.1 := ⟨Or.inl w_4_53, w_4_54⟩
theorem gs_Mod_81 : gSl "HerbrandTablesModel" 81 M_Mod_argument.1 := ⟨Or.inl w_4_56, w_4_57⟩
theorem f_Mod_84 : gFd "HerbrandTablesModel" 84 9 11 (.int) false := ⟨_, _, _, _, gc_Mod, by decide, rfl, rfl, Or.inl w_3_198⟩
theorem gs_Mod_87 : gSl "HerbrandTablesModel" 87 M_Mod_atomsOf.1 := ⟨Or.inl w_4_59, w_4_60⟩
theorem f_Mod_91 : gFd "HerbrandTablesModel" 91 9 4 (.int) false := ⟨_, _, _, _, gc_Mod, by decide, rfl, rfl, Or.inl w_3_191⟩
theorem gv_Mod_94 : gVl "HerbrandTablesModel" 94 M_Mod_readLiteral.1 := ⟨Or.inl w_4_45, w_4_47, w_s_16⟩
theorem gs_Mod_129 : gSl "HerbrandTablesModel" 129 M_Mod_isRight.1 := ⟨Or.inl w_4_96, w_4_97⟩
theorem k_Mod_66 : Cond.constantLong "HerbrandTablesModel" 66 255 ∈ gW := w_4_32
theorem f_Rd_29 : gFd "HerbrandTables$Reader" 29 4 4 (.int) false := ⟨_, _, _, _, gc_Rd, by decide, rfl, rfl, Or.inl w_1_111⟩
theorem f_Rd_12 : gFd "HerbrandTables$Reader" 12 4 0 (.object "HerbrandTables$Vocabulary") true := ⟨_, _, _, _, gc_Rd, by decide, rfl, rfl, Or.inl w_1_104⟩
theorem fl_Rd_12 : Cond.fieldLink "HerbrandTables$Reader" 12 "HerbrandTables$Reader" "vocabulary" "LHerbrandTables$Vocabulary;" ∈ gW := w_1_104
theorem gv_Rd_33 : gVl "HerbrandTables$Reader" 33 M_Voc_clear.1 := ⟨Or.inl w_2_113, w_2_114, w_2_115⟩
theorem f_Rd_24 : gFd "HerbrandTables$Reader" 24 4 2 (.array .int) true := ⟨_, _, _, _, gc_Rd, by decide, rfl, rfl, Or.inl w_1_107⟩
theorem fl_Rd_24 : Cond.fieldLink "HerbrandTables$Reader" 24 "HerbrandTables$Reader" "literalCounts" "[I" ∈ gW := w_1_107
theorem gs_Rd_36 : gSl "HerbrandTables$Reader" 36 M_Arr_fillI.1 := ⟨Or.inl w_2_128, w_1_59⟩
theorem f_Rd_42 : gFd "HerbrandTables$Reader" 42 4 3 (.int) false := ⟨_, _, _, _, gc_Rd, by decide, rfl, rfl, Or.inl w_1_110⟩
theorem f_Rd_20 : gFd "HerbrandTables$Reader" 20 4 1 (.array (.object "HerbrandTables$Literal")) true := ⟨_, _, _, _, gc_Rd, by decide, rfl, rfl, Or.inl w_1_106⟩
theorem fl_Rd_20 : Cond.fieldLink "HerbrandTables$Reader" 20 "HerbrandTables$Reader" "literals" "[LHerbrandTables$Literal;" ∈ gW := w_1_106
theorem gv_Rd_45 : gVl "HerbrandTables$Reader" 45 M_Rd_readLiteral.1 := ⟨Or.inl w_2_129, w_2_131, w_s_3⟩
theorem f_Rd_49 : gFd "HerbrandTables$Reader" 49 1 1 (.int) false := ⟨_, _, _, _, gc_Text, by decide, rfl, rfl, Or.inr ⟨_, w_1_39⟩⟩
theorem gv_Rd_54 : gVl "HerbrandTables$Reader" 54 M_Rd_readJoint.1 := ⟨Or.inl w_2_159, w_2_161, w_s_5⟩
-- HerbrandTables$Reader 3 is ('java/lang/Object', '<init>', '()V')
theorem go_Rd_3 : Cond.methodLink "HerbrandTables$Reader" 3 Lib.objectInit ∈ gW := w_1_51
theorem nw_Rd_9 : gNw "HerbrandTables$Reader" 9 2 [.null, .null, .int 0, .int 0, .int 0] := ⟨_, _, _, _, gc_Voc, w_1_52, w_1_53, w_1_4, by intro j hj; match j, hj with
  | 0, _ => rfl
  | 1, _ => rfl
  | 2, _ => rfl
  | 3, _ => rfl
  | 4, _ => rfl
  | n + 5, h => exact absurd h (by omega), rfl⟩
theorem gi_Rd_11 : gIl "HerbrandTables$Reader" 11 M_Voc_init.1 := ⟨Or.inl w_1_54, w_1_55, rfl⟩
theorem na_Rd_18 : Cond.classLink "HerbrandTables$Reader" 18 "HerbrandTables$Literal" ∈ gW := w_1_83
theorem nw_Rd_18 : gNw "HerbrandTables$Reader" 18 3 [.int 0, .int 0, .null] := ⟨_, _, _, _, gc_Lit, w_1_83, w_1_85, w_1_6, by intro j hj; match j, hj with
  | 0, _ => rfl
  | 1, _ => rfl
  | 2, _ => rfl
  | n + 3, h => exact absurd h (by omega), rfl⟩
theorem gi_Rd_28 : gIl "HerbrandTables$Reader" 28 M_Lit_init.1 := ⟨Or.inr ⟨_, w_1_86⟩, w_1_87, rfl⟩
theorem f_Rd_80 : gFd "HerbrandTables$Reader" 80 2 0 (.array .int) true := ⟨_, _, _, _, gc_Voc, by decide, rfl, rfl, Or.inr ⟨_, w_1_62⟩⟩
theorem f_Rd_73 : gFd "HerbrandTables$Reader" 73 3 1 (.int) false := ⟨_, _, _, _, gc_Lit, by decide, rfl, rfl, Or.inr ⟨_, w_1_92⟩⟩
theorem gv_Rd_61 : gVl "HerbrandTables$Reader" 61 M_Text_at.1 := ⟨Or.inl w_2_137, w_2_138, w_2_139⟩
theorem gs_Rd_83 : gSl "HerbrandTables$Reader" 83 M_Rd_argumentOf.1 := ⟨Or.inl w_2_148, w_2_149⟩
theorem gv_Rd_86 : gVl "HerbrandTables$Reader" 86 M_Voc_addConstant.1 := ⟨Or.inl w_2_151, w_2_152, w_2_153⟩
theorem f_Rd_90 : gFd "HerbrandTables$Reader" 90 2 4 (.int) false := ⟨_, _, _, _, gc_Voc, by decide, rfl, rfl, Or.inr ⟨_, w_1_67⟩⟩
theorem f_Rd_93 : gFd "HerbrandTables$Reader" 93 3 2 (.array .int) true := ⟨_, _, _, _, gc_Lit, by decide, rfl, rfl, Or.inr ⟨_, w_1_95⟩⟩
theorem gv_Rd_94 : gVl "HerbrandTables$Reader" 94 M_Voc_addPredicate.1 := ⟨Or.inl w_2_155, w_2_156, w_2_157⟩
theorem gv_Rd_57 : gVl "HerbrandTables$Reader" 57 M_Rd_literal.1 := ⟨Or.inl w_2_133, w_2_134, w_2_135⟩
theorem f_Rd_65 : gFd "HerbrandTables$Reader" 65 3 0 (.boolean) false := ⟨_, _, _, _, gc_Lit, by decide, rfl, rfl, Or.inr ⟨_, w_1_90⟩⟩
theorem gs_Rd_69 : gSl "HerbrandTables$Reader" 69 M_Rd_predicateOf.1 := ⟨Or.inl w_2_141, w_2_142⟩
theorem gv_Rd_76 : gVl "HerbrandTables$Reader" 76 M_Rd_readArguments.1 := ⟨Or.inl w_2_144, w_2_146, w_s_4⟩
theorem f_Sen_55 : gFd "HerbrandTables$Sentence" 55 5 9 (.array .int) true := ⟨_, _, _, _, gc_Sen, by decide, rfl, rfl, Or.inl w_1_188⟩
theorem fl_Sen_55 : Cond.fieldLink "HerbrandTables$Sentence" 55 "HerbrandTables$Sentence" "things" "[I" ∈ gW := w_1_188
theorem f_Sen_147 : gFd "HerbrandTables$Sentence" 147 3 2 (.array .int) true := ⟨_, _, _, _, gc_Lit, by decide, rfl, rfl, Or.inr ⟨_, w_1_96⟩⟩
theorem f_Sen_12 : gFd "HerbrandTables$Sentence" 12 5 0 (.object "HerbrandTables$Vocabulary") true := ⟨_, _, _, _, gc_Sen, by decide, rfl, rfl, Or.inl w_1_176⟩
theorem fl_Sen_12 : Cond.fieldLink "HerbrandTables$Sentence" 12 "HerbrandTables$Sentence" "vocabulary" "LHerbrandTables$Vocabulary;" ∈ gW := w_1_176
theorem f_Sen_150 : gFd "HerbrandTables$Sentence" 150 3 1 (.int) false := ⟨_, _, _, _, gc_Lit, by decide, rfl, rfl, Or.inr ⟨_, w_1_93⟩⟩
theorem gv_Sen_153 : gVl "HerbrandTables$Sentence" 153 M_Voc_number.1 := ⟨Or.inl w_3_20, w_2_36, w_2_37⟩
theorem f_Sen_58 : gFd "HerbrandTables$Sentence" 58 4 0 (.object "HerbrandTables$Vocabulary") true := ⟨_, _, _, _, gc_Rd, by decide, rfl, rfl, Or.inr ⟨_, w_1_105⟩⟩
theorem gv_Sen_61 : gVl "HerbrandTables$Sentence" 61 M_Voc_become.1 := ⟨Or.inl w_2_231, w_2_232, w_2_233⟩
theorem f_Sen_65 : gFd "HerbrandTables$Sentence" 65 4 3 (.int) false := ⟨_, _, _, _, gc_Rd, by decide, rfl, rfl, Or.inr ⟨_, w_1_109⟩⟩
theorem f_Sen_69 : gFd "HerbrandTables$Sentence" 69 5 1 (.int) false := ⟨_, _, _, _, gc_Sen, by decide, rfl, rfl, Or.inl w_1_178⟩
theorem f_Sen_27 : gFd "HerbrandTables$Sentence" 27 5 3 (.object "HerbrandTables$InstanceSet") true := ⟨_, _, _, _, gc_Sen, by decide, rfl, rfl, Or.inl w_1_182⟩
theorem fl_Sen_27 : Cond.fieldLink "HerbrandTables$Sentence" 27 "HerbrandTables$Sentence" "allInstances" "LHerbrandTables$InstanceSet;" ∈ gW := w_1_182
theorem gv_Sen_70 : gVl "HerbrandTables$Sentence" 70 M_Iset_clear.1 := ⟨Or.inl w_2_238, w_2_239, w_3_0⟩
theorem gv_Sen_73 : gVl "HerbrandTables$Sentence" 73 M_Voc_findThing.1 := ⟨Or.inl w_3_2, w_2_26, w_2_27⟩
theorem gv_Sen_77 : gVl "HerbrandTables$Sentence" 77 M_Sen_makeInstances.1 := ⟨Or.inl w_3_3, w_3_5, w_s_7⟩
theorem gv_Sen_94 : gVl "HerbrandTables$Sentence" 94 M_Sen_tablesOf.1 := ⟨Or.inl w_2_67, w_2_68, w_2_69⟩
theorem gv_Sen_98 : gVl "HerbrandTables$Sentence" 98 M_Tab_isEmpty.1 := ⟨Or.inl w_2_87, w_2_88, w_2_89⟩
theorem gv_Sen_102 : gVl "HerbrandTables$Sentence" 102 M_Sen_canHold.1 := ⟨Or.inl w_3_180, w_2_64, w_2_65⟩
-- HerbrandTables$Sentence 3 is ('java/lang/Object', '<init>', '()V')
theorem go_Sen_3 : Cond.methodLink "HerbrandTables$Sentence" 3 Lib.objectInit ∈ gW := w_1_128
theorem nw_Sen_9 : gNw "HerbrandTables$Sentence" 9 2 [.null, .null, .int 0, .int 0, .int 0] := ⟨_, _, _, _, gc_Voc, w_1_129, w_1_53, w_1_4, by intro j hj; match j, hj with
  | 0, _ => rfl
  | 1, _ => rfl
  | 2, _ => rfl
  | 3, _ => rfl
  | 4, _ => rfl
  | n + 5, h => exact absurd h (by omega), rfl⟩
theorem gi_Sen_11 : gIl "HerbrandTables$Sentence" 11 M_Voc_init.1 := ⟨Or.inl w_1_130, w_1_55, rfl⟩
theorem f_Sen_18 : gFd "HerbrandTables$Sentence" 18 5 2 (.array .int) true := ⟨_, _, _, _, gc_Sen, by decide, rfl, rfl, Or.inl w_1_180⟩
theorem fl_Sen_18 : Cond.fieldLink "HerbrandTables$Sentence" 18 "HerbrandTables$Sentence" "ownInstances" "[I" ∈ gW := w_1_180
theorem nw_Sen_22 : gNw "HerbrandTables$Sentence" 22 7 [.null, .int 0] := ⟨_, _, _, _, gc_Iset, w_1_131, w_1_132, w_1_8, by intro j hj; match j, hj with
  | 0, _ => rfl
  | 1, _ => rfl
  | n + 2, h => exact absurd h (by omega), rfl⟩
theorem gi_Sen_24 : gIl "HerbrandTables$Sentence" 24 M_Iset_init.1 := ⟨Or.inl w_1_133, w_1_134, rfl⟩
theorem f_Sen_31 : gFd "HerbrandTables$Sentence" 31 5 4 (.object "HerbrandTables$InstanceSet") true := ⟨_, _, _, _, gc_Sen, by decide, rfl, rfl, Or.inl w_1_183⟩
theorem fl_Sen_31 : Cond.fieldLink "HerbrandTables$Sentence" 31 "HerbrandTables$Sentence" "clauseInstances" "LHerbrandTables$InstanceSet;" ∈ gW := w_1_183
theorem nw_Sen_34 : gNw "HerbrandTables$Sentence" 34 6 [.int 0, .int 0] := ⟨_, _, _, _, gc_Ins, w_1_145, w_1_146, w_1_9, by intro j hj; match j, hj with
  | 0, _ => rfl
  | 1, _ => rfl
  | n + 2, h => exact absurd h (by omega), rfl⟩
theorem gi_Sen_36 : gIl "HerbrandTables$Sentence" 36 M_Ins_init.1 := ⟨Or.inr ⟨_, w_1_147⟩, w_1_148, rfl⟩
theorem f_Sen_37 : gFd "HerbrandTables$Sentence" 37 5 5 (.object "HerbrandTables$Instance") true := ⟨_, _, _, _, gc_Sen, by decide, rfl, rfl, Or.inl w_1_184⟩
theorem fl_Sen_37 : Cond.fieldLink "HerbrandTables$Sentence" 37 "HerbrandTables$Sentence" "instance" "LHerbrandTables$Instance;" ∈ gW := w_1_184
theorem na_Sen_41 : Cond.classLink "HerbrandTables$Sentence" 41 "HerbrandTables$TableSet" ∈ gW := w_1_158
theorem f_Sen_43 : gFd "HerbrandTables$Sentence" 43 5 6 (.array (.object "HerbrandTables$TableSet")) true := ⟨_, _, _, _, gc_Sen, by decide, rfl, rfl, Or.inl w_1_185⟩
theorem fl_Sen_43 : Cond.fieldLink "HerbrandTables$Sentence" 43 "HerbrandTables$Sentence" "clauseTables" "[LHerbrandTables$TableSet;" ∈ gW := w_1_185
theorem nw_Sen_41 : gNw "HerbrandTables$Sentence" 41 8 [.null, .int 0, .int 0] := ⟨_, _, _, _, gc_Tab, w_1_158, w_1_160, w_1_10, by intro j hj; match j, hj with
  | 0, _ => rfl
  | 1, _ => rfl
  | 2, _ => rfl
  | n + 3, h => exact absurd h (by omega), rfl⟩
theorem gi_Sen_47 : gIl "HerbrandTables$Sentence" 47 M_Tab_init.1 := ⟨Or.inr ⟨_, w_1_161⟩, w_1_162, rfl⟩
theorem f_Sen_48 : gFd "HerbrandTables$Sentence" 48 5 7 (.object "HerbrandTables$TableSet") true := ⟨_, _, _, _, gc_Sen, by decide, rfl, rfl, Or.inl w_1_186⟩
theorem fl_Sen_48 : Cond.fieldLink "HerbrandTables$Sentence" 48 "HerbrandTables$Sentence" "instanceTables" "LHerbrandTables$TableSet;" ∈ gW := w_1_186
theorem f_Sen_52 : gFd "HerbrandTables$Sentence" 52 5 8 (.object "HerbrandTables$TableSet") true := ⟨_, _, _, _, gc_Sen, by decide, rfl, rfl, Or.inl w_1_187⟩
theorem fl_Sen_52 : Cond.fieldLink "HerbrandTables$Sentence" 52 "HerbrandTables$Sentence" "commonTables" "LHerbrandTables$TableSet;" ∈ gW := w_1_187
theorem f_Sen_81 : gFd "HerbrandTables$Sentence" 81 7 1 (.int) false := ⟨_, _, _, _, gc_Iset, by decide, rfl, rfl, Or.inr ⟨_, w_1_139⟩⟩
theorem gv_Sen_112 : gVl "HerbrandTables$Sentence" 112 M_Ins_clear.1 := ⟨Or.inl w_3_11, w_3_12, w_3_13⟩
theorem f_Sen_113 : gFd "HerbrandTables$Sentence" 113 4 2 (.array .int) true := ⟨_, _, _, _, gc_Rd, by decide, rfl, rfl, Or.inr ⟨_, w_1_108⟩⟩
theorem gv_Sen_116 : gVl "HerbrandTables$Sentence" 116 M_Rd_literal.1 := ⟨Or.inl w_3_15, w_2_134, w_2_135⟩
theorem gv_Sen_120 : gVl "HerbrandTables$Sentence" 120 M_Sen_atomOf.1 := ⟨Or.inl w_3_16, w_3_18, w_s_9⟩
theorem f_Sen_124 : gFd "HerbrandTables$Sentence" 124 3 0 (.boolean) false := ⟨_, _, _, _, gc_Lit, by decide, rfl, rfl, Or.inr ⟨_, w_1_91⟩⟩
theorem gv_Sen_130 : gVl "HerbrandTables$Sentence" 130 M_Ins_add.1 := ⟨Or.inl w_3_21, w_3_22, w_3_23⟩
theorem gv_Sen_134 : gVl "HerbrandTables$Sentence" 134 M_Ins_isLeftOut.1 := ⟨Or.inl w_3_25, w_3_26, w_3_27⟩
theorem gv_Sen_137 : gVl "HerbrandTables$Sentence" 137 M_Ins_code.1 := ⟨Or.inl w_3_29, w_3_30, w_3_31⟩
theorem gv_Sen_141 : gVl "HerbrandTables$Sentence" 141 M_Iset_add.1 := ⟨Or.inl w_3_33, w_3_34, w_3_35⟩
theorem f_Sen_84 : gFd "HerbrandTables$Sentence" 84 2 4 (.int) false := ⟨_, _, _, _, gc_Voc, by decide, rfl, rfl, Or.inr ⟨_, w_1_68⟩⟩
theorem gv_Sen_143 : gVl "HerbrandTables$Sentence" 143 M_Tab_becomeTablesOf.1 := ⟨Or.inl w_3_37, w_3_38, w_3_39⟩
theorem gv_Sen_90 : gVl "HerbrandTables$Sentence" 90 M_Tab_keepCommon.1 := ⟨Or.inl w_2_83, w_2_84, w_2_85⟩
theorem gv_Sen_87 : gVl "HerbrandTables$Sentence" 87 M_Tab_fill.1 := ⟨Or.inl w_2_71, w_2_72, w_2_73⟩
theorem f_Sen_106 : gFd "HerbrandTables$Sentence" 106 2 3 (.int) false := ⟨_, _, _, _, gc_Voc, by decide, rfl, rfl, Or.inr ⟨_, w_1_66⟩⟩
theorem gv_Sen_109 : gVl "HerbrandTables$Sentence" 109 M_Sen_makeInstance.1 := ⟨Or.inl w_3_7, w_3_9, w_s_8⟩
theorem f_Tab_37 : gFd "HerbrandTables$TableSet" 37 8 1 (.int) false := ⟨_, _, _, _, gc_Tab, by decide, rfl, rfl, Or.inl w_1_166⟩
theorem f_Tab_9 : gFd "HerbrandTables$TableSet" 9 8 0 (.array .long) true := ⟨_, _, _, _, gc_Tab, by decide, rfl, rfl, Or.inl w_1_165⟩
theorem fl_Tab_9 : Cond.fieldLink "HerbrandTables$TableSet" 9 "HerbrandTables$TableSet" "words" "[J" ∈ gW := w_1_165
theorem gv_Tab_58 : gVl "HerbrandTables$TableSet" 58 M_Tab_wordWith.1 := ⟨Or.inl w_3_49, w_3_51, w_s_11⟩
theorem gv_Tab_15 : gVl "HerbrandTables$TableSet" 15 M_Tab_measure.1 := ⟨Or.inl w_2_75, w_2_77, w_s_0⟩
theorem gs_Tab_21 : gSl "HerbrandTables$TableSet" 21 M_Arr_fillJ.1 := ⟨Or.inl w_2_80, w_2_81⟩
theorem gv_Tab_27 : gVl "HerbrandTables$TableSet" 27 M_Ins_wants.1 := ⟨Or.inl w_3_41, w_3_42, w_3_43⟩
theorem gv_Tab_33 : gVl "HerbrandTables$TableSet" 33 M_Tab_addTablesWith.1 := ⟨Or.inl w_3_45, w_3_47, w_s_10⟩
theorem k_Tab_19 : Cond.constantLong "HerbrandTables$TableSet" 19 (-1) ∈ gW := w_2_79
theorem f_Tab_51 : gFd "HerbrandTables$TableSet" 51 8 2 (.int) false := ⟨_, _, _, _, gc_Tab, by decide, rfl, rfl, Or.inl w_1_167⟩
theorem gv_Tab_54 : gVl "HerbrandTables$TableSet" 54 M_Tab_has.1 := ⟨Or.inl w_3_116, w_3_118, w_s_14⟩
-- HerbrandTables$TableSet 3 is ('java/lang/Object', '<init>', '()V')
theorem go_Tab_3 : Cond.methodLink "HerbrandTables$TableSet" 3 Lib.objectInit ∈ gW := w_1_164
theorem gv_Tab_41 : gVl "HerbrandTables$TableSet" 41 M_Tab_size.1 := ⟨Or.inl w_2_91, w_2_92, w_2_93⟩
theorem gs_Tab_45 : gSl "HerbrandTables$TableSet" 45 M_Lng_bitCount.1 := ⟨Or.inl w_2_95, w_2_96⟩
theorem fs_Tab_62 : Cond.fieldLinkNest "HerbrandTables$TableSet" 62 gtC gtN "[J" "HerbrandTables" ∈ gNF := w_3_53
theorem gs_Text_15 : gSl "HerbrandTables$Text" 15 M_Text_countCharacters.1 := ⟨Or.inl w_1_231, w_1_232⟩
theorem f_Text_19 : gFd "HerbrandTables$Text" 19 1 1 (.int) false := ⟨_, _, _, _, gc_Text, by decide, rfl, rfl, Or.inl w_1_38⟩
theorem f_Text_9 : gFd "HerbrandTables$Text" 9 1 0 (.array .char) true := ⟨_, _, _, _, gc_Text, by decide, rfl, rfl, Or.inl w_1_37⟩
theorem fl_Text_9 : Cond.fieldLink "HerbrandTables$Text" 9 "HerbrandTables$Text" "characters" "[C" ∈ gW := w_1_37
theorem gs_Text_23 : gSl "HerbrandTables$Text" 23 M_Text_character.1 := ⟨Or.inl w_1_234, w_1_235⟩
-- HerbrandTables$Text 3 is ('java/lang/Object', '<init>', '()V')
theorem go_Text_3 : Cond.methodLink "HerbrandTables$Text" 3 Lib.objectInit ∈ gW := w_1_36
theorem f_Voc_24 : gFd "HerbrandTables$Vocabulary" 24 2 2 (.int) false := ⟨_, _, _, _, gc_Voc, by decide, rfl, rfl, Or.inl w_1_64⟩
theorem gv_Voc_28 : gVl "HerbrandTables$Vocabulary" 28 M_Voc_recount.1 := ⟨Or.inl w_2_117, w_2_119, w_s_1⟩
theorem f_Voc_9 : gFd "HerbrandTables$Vocabulary" 9 2 0 (.array .int) true := ⟨_, _, _, _, gc_Voc, by decide, rfl, rfl, Or.inl w_1_61⟩
theorem fl_Voc_9 : Cond.fieldLink "HerbrandTables$Vocabulary" 9 "HerbrandTables$Vocabulary" "arguments" "[I" ∈ gW := w_1_61
-- HerbrandTables$Vocabulary 31 is ('java/lang/System', 'arraycopy', '(Ljava/lang/Object;ILjava/lang/Object;II)V')
theorem gs_Voc_18 : gSl "HerbrandTables$Vocabulary" 18 M_Arr_fillI.1 := ⟨Or.inl w_1_58, w_1_59⟩
theorem f_Voc_43 : gFd "HerbrandTables$Vocabulary" 43 2 3 (.int) false := ⟨_, _, _, _, gc_Voc, by decide, rfl, rfl, Or.inl w_1_65⟩
theorem gv_Voc_46 : gVl "HerbrandTables$Vocabulary" 46 M_Voc_findThing.1 := ⟨Or.inl w_2_25, w_2_26, w_2_27⟩
theorem gv_Voc_49 : gVl "HerbrandTables$Vocabulary" 49 M_Voc_number.1 := ⟨Or.inl w_2_35, w_2_36, w_2_37⟩
theorem gs_Voc_37 : gSl "HerbrandTables$Vocabulary" 37 M_Int_bitCount.1 := ⟨Or.inl w_2_29, w_2_30⟩
-- HerbrandTables$Vocabulary 3 is ('java/lang/Object', '<init>', '()V')
theorem go_Voc_3 : Cond.methodLink "HerbrandTables$Vocabulary" 3 Lib.objectInit ∈ gW := w_1_57
theorem f_Voc_15 : gFd "HerbrandTables$Vocabulary" 15 2 1 (.array .int) true := ⟨_, _, _, _, gc_Voc, by decide, rfl, rfl, Or.inl w_1_63⟩
theorem fl_Voc_15 : Cond.fieldLink "HerbrandTables$Vocabulary" 15 "HerbrandTables$Vocabulary" "firstAtoms" "[I" ∈ gW := w_1_63
theorem gs_Voc_53 : gSl "HerbrandTables$Vocabulary" 53 M_Mth_max.1 := ⟨Or.inl w_2_121, w_2_122⟩
theorem f_Voc_59 : gFd "HerbrandTables$Vocabulary" 59 2 4 (.int) false := ⟨_, _, _, _, gc_Voc, by decide, rfl, rfl, Or.inl w_1_70⟩
theorem gv_Voc_62 : gVl "HerbrandTables$Vocabulary" 62 M_Voc_countAtoms.1 := ⟨Or.inl w_2_124, w_2_126, w_s_2⟩
theorem ac_int : Cond.arrayClass .int ∈ gW := w_1_82
theorem ac_long : Cond.arrayClass .long ∈ gW := w_1_175
theorem ac_char : Cond.arrayClass .char ∈ gW := w_1_45
theorem ac_boolean : Cond.arrayClass .boolean ∈ gW := w_4_23
theorem ob_1 : Cond.instanceMethod Lib.objectInit ∈ gW := w_1_29
theorem ob_2 : Cond.code Lib.objectInit ⟨#[0xb1]⟩ 1 none ∈ gW := w_1_30
