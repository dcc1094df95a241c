/-! the classes of the system, the tables' words -/
def T_HT : u_T := fun k => match k with
  | 0 => ("HerbrandTables", "text", "LHerbrandTables$Text;", true)
  | 1 => ("HerbrandTables", "reader", "LHerbrandTables$Reader;", true)
  | 2 => ("HerbrandTables", "sentence", "LHerbrandTables$Sentence;", true)
  | _ => ("HerbrandTables", "latestFault", "I", false)
def t_HT : Nat → FieldType := fun k => match k with
  | 0 => .object "HerbrandTables$Text"
  | 1 => .object "HerbrandTables$Reader"
  | 2 => .object "HerbrandTables$Sentence"
  | _ => .int
def T_Text : u_T := fun k => match k with
  | 0 => ("HerbrandTables$Text", "characters", "[C", true)
  | _ => ("HerbrandTables$Text", "length", "I", false)
def t_Text : Nat → FieldType := fun k => match k with
  | 0 => .array .char
  | _ => .int
def T_Voc : u_T := fun k => match k with
  | 0 => ("HerbrandTables$Vocabulary", "arguments", "[I", true)
  | 1 => ("HerbrandTables$Vocabulary", "firstAtoms", "[I", true)
  | 2 => ("HerbrandTables$Vocabulary", "constants", "I", false)
  | 3 => ("HerbrandTables$Vocabulary", "thingCount", "I", false)
  | _ => ("HerbrandTables$Vocabulary", "atomCount", "I", false)
def t_Voc : Nat → FieldType := fun k => match k with
  | 0 => .array .int
  | 1 => .array .int
  | 2 => .int
  | 3 => .int
  | _ => .int
def T_Lit : u_T := fun k => match k with
  | 0 => ("HerbrandTables$Literal", "negative", "Z", false)
  | 1 => ("HerbrandTables$Literal", "predicate", "I", false)
  | _ => ("HerbrandTables$Literal", "arguments", "[I", true)
def t_Lit : Nat → FieldType := fun k => match k with
  | 0 => .boolean
  | 1 => .int
  | _ => .array .int
def T_Rd : u_T := fun k => match k with
  | 0 => ("HerbrandTables$Reader", "vocabulary", "LHerbrandTables$Vocabulary;", true)
  | 1 => ("HerbrandTables$Reader", "literals", "[LHerbrandTables$Literal;", true)
  | 2 => ("HerbrandTables$Reader", "literalCounts", "[I", true)
  | 3 => ("HerbrandTables$Reader", "clauseCount", "I", false)
  | _ => ("HerbrandTables$Reader", "place", "I", false)
def t_Rd : Nat → FieldType := fun k => match k with
  | 0 => .object "HerbrandTables$Vocabulary"
  | 1 => .array (.object "HerbrandTables$Literal")
  | 2 => .array .int
  | 3 => .int
  | _ => .int
def T_Sen : u_T := fun k => match k with
  | 0 => ("HerbrandTables$Sentence", "vocabulary", "LHerbrandTables$Vocabulary;", true)
  | 1 => ("HerbrandTables$Sentence", "clauseCount", "I", false)
  | 2 => ("HerbrandTables$Sentence", "ownInstances", "[I", true)
  | 3 => ("HerbrandTables$Sentence", "allInstances", "LHerbrandTables$InstanceSet;", true)
  | 4 => ("HerbrandTables$Sentence", "clauseInstances", "LHerbrandTables$InstanceSet;", true)
  | 5 => ("HerbrandTables$Sentence", "instance", "LHerbrandTables$Instance;", true)
  | 6 => ("HerbrandTables$Sentence", "clauseTables", "[LHerbrandTables$TableSet;", true)
  | 7 => ("HerbrandTables$Sentence", "instanceTables", "LHerbrandTables$TableSet;", true)
  | 8 => ("HerbrandTables$Sentence", "commonTables", "LHerbrandTables$TableSet;", true)
  | _ => ("HerbrandTables$Sentence", "things", "[I", true)
def t_Sen : Nat → FieldType := fun k => match k with
  | 0 => .object "HerbrandTables$Vocabulary"
  | 1 => .int
  | 2 => .array .int
  | 3 => .object "HerbrandTables$InstanceSet"
  | 4 => .object "HerbrandTables$InstanceSet"
  | 5 => .object "HerbrandTables$Instance"
  | 6 => .array (.object "HerbrandTables$TableSet")
  | 7 => .object "HerbrandTables$TableSet"
  | 8 => .object "HerbrandTables$TableSet"
  | _ => .array .int
def T_Ins : u_T := fun k => match k with
  | 0 => ("HerbrandTables$Instance", "trueAtoms", "I", false)
  | _ => ("HerbrandTables$Instance", "falseAtoms", "I", false)
def t_Ins : Nat → FieldType := fun k => match k with
  | 0 => .int
  | _ => .int
def T_Iset : u_T := fun k => match k with
  | 0 => ("HerbrandTables$InstanceSet", "codes", "[I", true)
  | _ => ("HerbrandTables$InstanceSet", "size", "I", false)
def t_Iset : Nat → FieldType := fun k => match k with
  | 0 => .array .int
  | _ => .int
def T_Tab : u_T := fun k => match k with
  | 0 => ("HerbrandTables$TableSet", "words", "[J", true)
  | 1 => ("HerbrandTables$TableSet", "wordCount", "I", false)
  | _ => ("HerbrandTables$TableSet", "atomCount", "I", false)
def t_Tab : Nat → FieldType := fun k => match k with
  | 0 => .array .long
  | 1 => .int
  | _ => .int
def T_Mod : u_T := fun k => match k with
  | 0 => ("HerbrandTablesModel", "code", "I", false)
  | 1 => ("HerbrandTablesModel", "typed", "I", false)
  | 2 => ("HerbrandTablesModel", "text", "[I", true)
  | 3 => ("HerbrandTablesModel", "told", "I", false)
  | 4 => ("HerbrandTablesModel", "newClauses", "I", false)
  | 5 => ("HerbrandTablesModel", "newSizes", "[I", true)
  | 6 => ("HerbrandTablesModel", "newPredicates", "[I", true)
  | 7 => ("HerbrandTablesModel", "newTurned", "[Z", true)
  | 8 => ("HerbrandTablesModel", "newOnes", "[I", true)
  | 9 => ("HerbrandTablesModel", "newTwos", "[I", true)
  | 10 => ("HerbrandTablesModel", "newWidths", "[I", true)
  | 11 => ("HerbrandTablesModel", "newThings", "I", false)
  | 12 => ("HerbrandTablesModel", "there", "Z", false)
  | 13 => ("HerbrandTablesModel", "clauses", "I", false)
  | 14 => ("HerbrandTablesModel", "sizes", "[I", true)
  | 15 => ("HerbrandTablesModel", "predicates", "[I", true)
  | 16 => ("HerbrandTablesModel", "turned", "[Z", true)
  | 17 => ("HerbrandTablesModel", "ones", "[I", true)
  | 18 => ("HerbrandTablesModel", "twos", "[I", true)
  | 19 => ("HerbrandTablesModel", "widths", "[I", true)
  | 20 => ("HerbrandTablesModel", "things", "I", false)
  | 21 => ("HerbrandTablesModel", "atoms", "I", false)
  | 22 => ("HerbrandTablesModel", "sets", "[I", true)
  | 23 => ("HerbrandTablesModel", "many", "[I", true)
  | _ => ("HerbrandTablesModel", "holding", "[I", true)
def t_Mod : Nat → FieldType := fun k => match k with
  | 0 => .int
  | 1 => .int
  | 2 => .array .int
  | 3 => .int
  | 4 => .int
  | 5 => .array .int
  | 6 => .array .int
  | 7 => .array .boolean
  | 8 => .array .int
  | 9 => .array .int
  | 10 => .array .int
  | 11 => .int
  | 12 => .boolean
  | 13 => .int
  | 14 => .array .int
  | 15 => .array .int
  | 16 => .array .boolean
  | 17 => .array .int
  | 18 => .array .int
  | 19 => .array .int
  | 20 => .int
  | 21 => .int
  | 22 => .array .int
  | 23 => .array .int
  | _ => .array .int
def T_ex : u_T := fun _ => ("", "", "", false)
def gcl : List vw_C := [("HerbrandTables", T_HT, 4), ("HerbrandTables$Text", T_Text, 2), ("HerbrandTables$Vocabulary", T_Voc, 5), ("HerbrandTables$Literal", T_Lit, 3), ("HerbrandTables$Reader", T_Rd, 5), ("HerbrandTables$Sentence", T_Sen, 10), ("HerbrandTables$Instance", T_Ins, 2), ("HerbrandTables$InstanceSet", T_Iset, 2), ("HerbrandTables$TableSet", T_Tab, 3), ("HerbrandTablesModel", T_Mod, 25), ("java/lang/IllegalArgumentException", T_ex, 0), ("java/lang/IllegalStateException", T_ex, 0), ("java/util/NoSuchElementException", T_ex, 0), ("java/lang/IndexOutOfBoundsException", T_ex, 0)]
def gtys (dA : Nat → ClassId) : List (ClassId × FieldType) := [(dA 0, .int), (dA 1, .long), (dA 2, .char), (dA 3, .boolean), (dA 4, .object "HerbrandTables$Literal"), (dA 5, .object "HerbrandTables$TableSet")]
theorem gtys_at (dA : Nat → ClassId) {t : Nat} (ht : t < 6) : ∃ ty, (gtys dA)[t]? = some (dA t, ty) := by
  match t, ht with
  | 0, _ => exact ⟨_, rfl⟩
  | 1, _ => exact ⟨_, rfl⟩
  | 2, _ => exact ⟨_, rfl⟩
  | 3, _ => exact ⟨_, rfl⟩
  | 4, _ => exact ⟨_, rfl⟩
  | 5, _ => exact ⟨_, rfl⟩
  | n + 6, h => omega
def gAO : List String := ["HerbrandTables$Literal", "HerbrandTables$TableSet"]
def gtC : String := "HerbrandTables"
def gtN : String := "TRUE_IN_WORD"
def gtw : Nat → Int64 := fun j => match j with
  | 0 => -6148914691236517206
  | 1 => -3689348814741910324
  | 2 => -1085102592571150096
  | 3 => -71777214294589696
  | 4 => -281470681808896
  | _ => -4294967296
def gok (w : Cond) : Bool := (w.onTables && w.keeps) || (match w with | .arrayClass _ => true | _ => false)
def gnf (w : Cond) : Bool := match w with
  | .fieldLinkNest _ _ _ _ _ _ => true
  | .methodLinkNest _ _ _ _ => true
  | _ => false
def gW : List Cond := lw_tbl.filter gok
def gNF : List Cond := lw_tbl.filter gnf
theorem gin_1 {w : Cond} (h : w ∈ tables_1_1) : w ∈ lw_tbl := List.mem_append_right _ (List.mem_append_left _ h)
theorem gin_2 {w : Cond} (h : w ∈ tables_1_2) : w ∈ lw_tbl := List.mem_append_right _ (List.mem_append_right _ (List.mem_append_left _ h))
theorem gin_3 {w : Cond} (h : w ∈ tables_1_3) : w ∈ lw_tbl := List.mem_append_right _ (List.mem_append_right _ (List.mem_append_right _ (List.mem_append_left _ h)))
theorem gin_4 {w : Cond} (h : w ∈ tables_1_4) : w ∈ lw_tbl := List.mem_append_right _ (List.mem_append_right _ (List.mem_append_right _ (List.mem_append_right _ h)))
theorem gin_s {w : Cond} (h : w ∈ k2_sels lw_privs) : w ∈ lw_tbl := List.mem_append_left _ h
theorem gW_of {w : Cond} (h : w ∈ lw_tbl) (g : gok w = true) : w ∈ gW := List.mem_filter.mpr ⟨h, g⟩
theorem gNF_of {w : Cond} (h : w ∈ lw_tbl) (g : gnf w = true) : w ∈ gNF := List.mem_filter.mpr ⟨h, g⟩
