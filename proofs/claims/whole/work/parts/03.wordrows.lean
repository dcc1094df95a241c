theorem w_1_0 : Cond.initialized "HerbrandTablesLaw" ∈ gW := gW_of (gin_1 (List.mem_of_getElem? (i := 0) rfl)) rfl
theorem w_1_1 : Cond.initialized "HerbrandTables" ∈ gW := gW_of (gin_1 (List.mem_of_getElem? (i := 1) rfl)) rfl
theorem w_1_2 : Cond.initialized "HerbrandTables$Text" ∈ gW := gW_of (gin_1 (List.mem_of_getElem? (i := 2) rfl)) rfl
theorem w_1_3 : Cond.initialized "HerbrandTables$Reader" ∈ gW := gW_of (gin_1 (List.mem_of_getElem? (i := 3) rfl)) rfl
theorem w_1_4 : Cond.initialized "HerbrandTables$Vocabulary" ∈ gW := gW_of (gin_1 (List.mem_of_getElem? (i := 4) rfl)) rfl
theorem w_1_5 : Cond.initialized "java/util/Arrays" ∈ gW := gW_of (gin_1 (List.mem_of_getElem? (i := 5) rfl)) rfl
theorem w_1_6 : Cond.initialized "HerbrandTables$Literal" ∈ gW := gW_of (gin_1 (List.mem_of_getElem? (i := 6) rfl)) rfl
theorem w_1_7 : Cond.initialized "HerbrandTables$Sentence" ∈ gW := gW_of (gin_1 (List.mem_of_getElem? (i := 7) rfl)) rfl
theorem w_1_8 : Cond.initialized "HerbrandTables$InstanceSet" ∈ gW := gW_of (gin_1 (List.mem_of_getElem? (i := 8) rfl)) rfl
theorem w_1_9 : Cond.initialized "HerbrandTables$Instance" ∈ gW := gW_of (gin_1 (List.mem_of_getElem? (i := 9) rfl)) rfl
theorem w_1_10 : Cond.initialized "HerbrandTables$TableSet" ∈ gW := gW_of (gin_1 (List.mem_of_getElem? (i := 10) rfl)) rfl
theorem w_1_11 : Cond.initialized "HerbrandTablesModel" ∈ gW := gW_of (gin_1 (List.mem_of_getElem? (i := 11) rfl)) rfl
theorem w_1_12 : Cond.initialized "java/lang/Integer" ∈ gW := gW_of (gin_1 (List.mem_of_getElem? (i := 12) rfl)) rfl
theorem w_1_13 : Cond.initialized "java/lang/Math" ∈ gW := gW_of (gin_1 (List.mem_of_getElem? (i := 13) rfl)) rfl
theorem w_1_19 : Cond.initialized "java/lang/Long" ∈ gW := gW_of (gin_1 (List.mem_of_getElem? (i := 19) rfl)) rfl
theorem w_1_23 : Cond.classLink "HerbrandTablesLaw" 8 "HerbrandTables" ∈ gW := gW_of (gin_1 (List.mem_of_getElem? (i := 23) rfl)) rfl
theorem w_1_24 : Cond.instantiable "HerbrandTables" 4 ∈ gW := gW_of (gin_1 (List.mem_of_getElem? (i := 24) rfl)) rfl
theorem w_1_25 : Cond.methodLink "HerbrandTablesLaw" 41 ⟨"HerbrandTables", "<init>", "()V"⟩ ∈ gW := gW_of (gin_1 (List.mem_of_getElem? (i := 25) rfl)) rfl
theorem w_1_26 : Cond.instanceMethod ⟨"HerbrandTables", "<init>", "()V"⟩ ∈ gW := gW_of (gin_1 (List.mem_of_getElem? (i := 26) rfl)) rfl
theorem w_1_27 : Cond.code ⟨"HerbrandTables", "<init>", "()V"⟩ prog_1_method_1_code 1 none ∈ gW := gW_of (gin_1 (List.mem_of_getElem? (i := 27) rfl)) rfl
theorem w_1_28 : Cond.methodLink "HerbrandTables" 3 ⟨"java/lang/Object", "<init>", "()V"⟩ ∈ gW := gW_of (gin_1 (List.mem_of_getElem? (i := 28) rfl)) rfl
theorem w_1_29 : Cond.instanceMethod ⟨"java/lang/Object", "<init>", "()V"⟩ ∈ gW := gW_of (gin_1 (List.mem_of_getElem? (i := 29) rfl)) rfl
theorem w_1_30 : Cond.code ⟨"java/lang/Object", "<init>", "()V"⟩ object_method_1_code 1 none ∈ gW := gW_of (gin_1 (List.mem_of_getElem? (i := 30) rfl)) rfl
theorem w_1_31 : Cond.classLink "HerbrandTables" 9 "HerbrandTables$Text" ∈ gW := gW_of (gin_1 (List.mem_of_getElem? (i := 31) rfl)) rfl
theorem w_1_32 : Cond.instantiable "HerbrandTables$Text" 2 ∈ gW := gW_of (gin_1 (List.mem_of_getElem? (i := 32) rfl)) rfl
theorem w_1_33 : Cond.methodLinkNest "HerbrandTables" 11 ⟨"HerbrandTables$Text", "<init>", "()V"⟩ "HerbrandTables" ∈ gNF := gNF_of (gin_1 (List.mem_of_getElem? (i := 33) rfl)) rfl
theorem w_1_34 : Cond.instanceMethod ⟨"HerbrandTables$Text", "<init>", "()V"⟩ ∈ gW := gW_of (gin_1 (List.mem_of_getElem? (i := 34) rfl)) rfl
theorem w_1_35 : Cond.code ⟨"HerbrandTables$Text", "<init>", "()V"⟩ prog_8_method_1_code 1 none ∈ gW := gW_of (gin_1 (List.mem_of_getElem? (i := 35) rfl)) rfl
theorem w_1_36 : Cond.methodLink "HerbrandTables$Text" 3 ⟨"java/lang/Object", "<init>", "()V"⟩ ∈ gW := gW_of (gin_1 (List.mem_of_getElem? (i := 36) rfl)) rfl
theorem w_1_37 : Cond.fieldLink "HerbrandTables$Text" 9 "HerbrandTables$Text" "characters" "[C" ∈ gW := gW_of (gin_1 (List.mem_of_getElem? (i := 37) rfl)) rfl
theorem w_1_38 : Cond.fieldLink "HerbrandTables$Text" 19 "HerbrandTables$Text" "length" "I" ∈ gW := gW_of (gin_1 (List.mem_of_getElem? (i := 38) rfl)) rfl
theorem w_1_39 : Cond.fieldLinkNest "HerbrandTables$Reader" 49 "HerbrandTables$Text" "length" "I" "HerbrandTables" ∈ gNF := gNF_of (gin_1 (List.mem_of_getElem? (i := 39) rfl)) rfl
theorem w_1_40 : Cond.laysFinal "HerbrandTables$Text" "HerbrandTables$Text" "characters" "[C" ∈ gW := gW_of (gin_1 (List.mem_of_getElem? (i := 40) rfl)) rfl
theorem w_1_42 : Cond.lays "HerbrandTables$Text" "HerbrandTables$Text" "length" "I" ∈ gW := gW_of (gin_1 (List.mem_of_getElem? (i := 42) rfl)) rfl
theorem w_1_45 : Cond.arrayClass .char ∈ gW := gW_of (gin_1 (List.mem_of_getElem? (i := 45) rfl)) rfl
theorem w_1_46 : Cond.classLink "HerbrandTables" 16 "HerbrandTables$Reader" ∈ gW := gW_of (gin_1 (List.mem_of_getElem? (i := 46) rfl)) rfl
theorem w_1_47 : Cond.instantiable "HerbrandTables$Reader" 5 ∈ gW := gW_of (gin_1 (List.mem_of_getElem? (i := 47) rfl)) rfl
theorem w_1_48 : Cond.methodLink "HerbrandTables" 18 ⟨"HerbrandTables$Reader", "<init>", "()V"⟩ ∈ gW := gW_of (gin_1 (List.mem_of_getElem? (i := 48) rfl)) rfl
theorem w_1_49 : Cond.instanceMethod ⟨"HerbrandTables$Reader", "<init>", "()V"⟩ ∈ gW := gW_of (gin_1 (List.mem_of_getElem? (i := 49) rfl)) rfl
theorem w_1_50 : Cond.code ⟨"HerbrandTables$Reader", "<init>", "()V"⟩ prog_5_method_1_code 2 none ∈ gW := gW_of (gin_1 (List.mem_of_getElem? (i := 50) rfl)) rfl
theorem w_1_51 : Cond.methodLink "HerbrandTables$Reader" 3 ⟨"java/lang/Object", "<init>", "()V"⟩ ∈ gW := gW_of (gin_1 (List.mem_of_getElem? (i := 51) rfl)) rfl
theorem w_1_52 : Cond.classLink "HerbrandTables$Reader" 9 "HerbrandTables$Vocabulary" ∈ gW := gW_of (gin_1 (List.mem_of_getElem? (i := 52) rfl)) rfl
theorem w_1_53 : Cond.instantiable "HerbrandTables$Vocabulary" 5 ∈ gW := gW_of (gin_1 (List.mem_of_getElem? (i := 53) rfl)) rfl
theorem w_1_54 : Cond.methodLink "HerbrandTables$Reader" 11 ⟨"HerbrandTables$Vocabulary", "<init>", "()V"⟩ ∈ gW := gW_of (gin_1 (List.mem_of_getElem? (i := 54) rfl)) rfl
theorem w_1_55 : Cond.instanceMethod ⟨"HerbrandTables$Vocabulary", "<init>", "()V"⟩ ∈ gW := gW_of (gin_1 (List.mem_of_getElem? (i := 55) rfl)) rfl
theorem w_1_56 : Cond.code ⟨"HerbrandTables$Vocabulary", "<init>", "()V"⟩ prog_9_method_1_code 1 none ∈ gW := gW_of (gin_1 (List.mem_of_getElem? (i := 56) rfl)) rfl
theorem w_1_57 : Cond.methodLink "HerbrandTables$Vocabulary" 3 ⟨"java/lang/Object", "<init>", "()V"⟩ ∈ gW := gW_of (gin_1 (List.mem_of_getElem? (i := 57) rfl)) rfl
theorem w_1_58 : Cond.methodLink "HerbrandTables$Vocabulary" 18 ⟨"java/util/Arrays", "fill", "([II)V"⟩ ∈ gW := gW_of (gin_1 (List.mem_of_getElem? (i := 58) rfl)) rfl
theorem w_1_59 : Cond.static ⟨"java/util/Arrays", "fill", "([II)V"⟩ ∈ gW := gW_of (gin_1 (List.mem_of_getElem? (i := 59) rfl)) rfl
theorem w_1_60 : Cond.code ⟨"java/util/Arrays", "fill", "([II)V"⟩ prog_22_method_103_code 4 none ∈ gW := gW_of (gin_1 (List.mem_of_getElem? (i := 60) rfl)) rfl
theorem w_1_61 : Cond.fieldLink "HerbrandTables$Vocabulary" 9 "HerbrandTables$Vocabulary" "arguments" "[I" ∈ gW := gW_of (gin_1 (List.mem_of_getElem? (i := 61) rfl)) rfl
theorem w_1_62 : Cond.fieldLinkNest "HerbrandTables$Reader" 80 "HerbrandTables$Vocabulary" "arguments" "[I" "HerbrandTables" ∈ gNF := gNF_of (gin_1 (List.mem_of_getElem? (i := 62) rfl)) rfl
theorem w_1_63 : Cond.fieldLink "HerbrandTables$Vocabulary" 15 "HerbrandTables$Vocabulary" "firstAtoms" "[I" ∈ gW := gW_of (gin_1 (List.mem_of_getElem? (i := 63) rfl)) rfl
theorem w_1_64 : Cond.fieldLink "HerbrandTables$Vocabulary" 24 "HerbrandTables$Vocabulary" "constants" "I" ∈ gW := gW_of (gin_1 (List.mem_of_getElem? (i := 64) rfl)) rfl
theorem w_1_65 : Cond.fieldLink "HerbrandTables$Vocabulary" 43 "HerbrandTables$Vocabulary" "thingCount" "I" ∈ gW := gW_of (gin_1 (List.mem_of_getElem? (i := 65) rfl)) rfl
theorem w_1_66 : Cond.fieldLinkNest "HerbrandTables$Sentence" 106 "HerbrandTables$Vocabulary" "thingCount" "I" "HerbrandTables" ∈ gNF := gNF_of (gin_1 (List.mem_of_getElem? (i := 66) rfl)) rfl
theorem w_1_67 : Cond.fieldLinkNest "HerbrandTables$Reader" 90 "HerbrandTables$Vocabulary" "atomCount" "I" "HerbrandTables" ∈ gNF := gNF_of (gin_1 (List.mem_of_getElem? (i := 67) rfl)) rfl
theorem w_1_68 : Cond.fieldLinkNest "HerbrandTables$Sentence" 84 "HerbrandTables$Vocabulary" "atomCount" "I" "HerbrandTables" ∈ gNF := gNF_of (gin_1 (List.mem_of_getElem? (i := 68) rfl)) rfl
theorem w_1_69 : Cond.fieldLinkNest "HerbrandTables" 63 "HerbrandTables$Vocabulary" "atomCount" "I" "HerbrandTables" ∈ gNF := gNF_of (gin_1 (List.mem_of_getElem? (i := 69) rfl)) rfl
theorem w_1_70 : Cond.fieldLink "HerbrandTables$Vocabulary" 59 "HerbrandTables$Vocabulary" "atomCount" "I" ∈ gW := gW_of (gin_1 (List.mem_of_getElem? (i := 70) rfl)) rfl
theorem w_1_71 : Cond.laysFinal "HerbrandTables$Vocabulary" "HerbrandTables$Vocabulary" "arguments" "[I" ∈ gW := gW_of (gin_1 (List.mem_of_getElem? (i := 71) rfl)) rfl
theorem w_1_73 : Cond.laysFinal "HerbrandTables$Vocabulary" "HerbrandTables$Vocabulary" "firstAtoms" "[I" ∈ gW := gW_of (gin_1 (List.mem_of_getElem? (i := 73) rfl)) rfl
theorem w_1_75 : Cond.lays "HerbrandTables$Vocabulary" "HerbrandTables$Vocabulary" "constants" "I" ∈ gW := gW_of (gin_1 (List.mem_of_getElem? (i := 75) rfl)) rfl
theorem w_1_77 : Cond.lays "HerbrandTables$Vocabulary" "HerbrandTables$Vocabulary" "thingCount" "I" ∈ gW := gW_of (gin_1 (List.mem_of_getElem? (i := 77) rfl)) rfl
theorem w_1_79 : Cond.lays "HerbrandTables$Vocabulary" "HerbrandTables$Vocabulary" "atomCount" "I" ∈ gW := gW_of (gin_1 (List.mem_of_getElem? (i := 79) rfl)) rfl
theorem w_1_82 : Cond.arrayClass .int ∈ gW := gW_of (gin_1 (List.mem_of_getElem? (i := 82) rfl)) rfl
theorem w_1_83 : Cond.classLink "HerbrandTables$Reader" 18 "HerbrandTables$Literal" ∈ gW := gW_of (gin_1 (List.mem_of_getElem? (i := 83) rfl)) rfl
theorem w_1_85 : Cond.instantiable "HerbrandTables$Literal" 3 ∈ gW := gW_of (gin_1 (List.mem_of_getElem? (i := 85) rfl)) rfl
theorem w_1_86 : Cond.methodLinkNest "HerbrandTables$Reader" 28 ⟨"HerbrandTables$Literal", "<init>", "()V"⟩ "HerbrandTables" ∈ gNF := gNF_of (gin_1 (List.mem_of_getElem? (i := 86) rfl)) rfl
theorem w_1_87 : Cond.instanceMethod ⟨"HerbrandTables$Literal", "<init>", "()V"⟩ ∈ gW := gW_of (gin_1 (List.mem_of_getElem? (i := 87) rfl)) rfl
theorem w_1_88 : Cond.code ⟨"HerbrandTables$Literal", "<init>", "()V"⟩ prog_4_method_1_code 1 none ∈ gW := gW_of (gin_1 (List.mem_of_getElem? (i := 88) rfl)) rfl
theorem w_1_89 : Cond.methodLink "HerbrandTables$Literal" 3 ⟨"java/lang/Object", "<init>", "()V"⟩ ∈ gW := gW_of (gin_1 (List.mem_of_getElem? (i := 89) rfl)) rfl
theorem w_1_90 : Cond.fieldLinkNest "HerbrandTables$Reader" 65 "HerbrandTables$Literal" "negative" "Z" "HerbrandTables" ∈ gNF := gNF_of (gin_1 (List.mem_of_getElem? (i := 90) rfl)) rfl
theorem w_1_91 : Cond.fieldLinkNest "HerbrandTables$Sentence" 124 "HerbrandTables$Literal" "negative" "Z" "HerbrandTables" ∈ gNF := gNF_of (gin_1 (List.mem_of_getElem? (i := 91) rfl)) rfl
theorem w_1_92 : Cond.fieldLinkNest "HerbrandTables$Reader" 73 "HerbrandTables$Literal" "predicate" "I" "HerbrandTables" ∈ gNF := gNF_of (gin_1 (List.mem_of_getElem? (i := 92) rfl)) rfl
theorem w_1_93 : Cond.fieldLinkNest "HerbrandTables$Sentence" 150 "HerbrandTables$Literal" "predicate" "I" "HerbrandTables" ∈ gNF := gNF_of (gin_1 (List.mem_of_getElem? (i := 93) rfl)) rfl
theorem w_1_94 : Cond.fieldLink "HerbrandTables$Literal" 9 "HerbrandTables$Literal" "arguments" "[I" ∈ gW := gW_of (gin_1 (List.mem_of_getElem? (i := 94) rfl)) rfl
theorem w_1_95 : Cond.fieldLinkNest "HerbrandTables$Reader" 93 "HerbrandTables$Literal" "arguments" "[I" "HerbrandTables" ∈ gNF := gNF_of (gin_1 (List.mem_of_getElem? (i := 95) rfl)) rfl
theorem w_1_96 : Cond.fieldLinkNest "HerbrandTables$Sentence" 147 "HerbrandTables$Literal" "arguments" "[I" "HerbrandTables" ∈ gNF := gNF_of (gin_1 (List.mem_of_getElem? (i := 96) rfl)) rfl
theorem w_1_97 : Cond.lays "HerbrandTables$Literal" "HerbrandTables$Literal" "negative" "Z" ∈ gW := gW_of (gin_1 (List.mem_of_getElem? (i := 97) rfl)) rfl
theorem w_1_99 : Cond.lays "HerbrandTables$Literal" "HerbrandTables$Literal" "predicate" "I" ∈ gW := gW_of (gin_1 (List.mem_of_getElem? (i := 99) rfl)) rfl
theorem w_1_101 : Cond.laysFinal "HerbrandTables$Literal" "HerbrandTables$Literal" "arguments" "[I" ∈ gW := gW_of (gin_1 (List.mem_of_getElem? (i := 101) rfl)) rfl
theorem w_1_104 : Cond.fieldLink "HerbrandTables$Reader" 12 "HerbrandTables$Reader" "vocabulary" "LHerbrandTables$Vocabulary;" ∈ gW := gW_of (gin_1 (List.mem_of_getElem? (i := 104) rfl)) rfl
theorem w_1_105 : Cond.fieldLinkNest "HerbrandTables$Sentence" 58 "HerbrandTables$Reader" "vocabulary" "LHerbrandTables$Vocabulary;" "HerbrandTables" ∈ gNF := gNF_of (gin_1 (List.mem_of_getElem? (i := 105) rfl)) rfl
theorem w_1_106 : Cond.fieldLink "HerbrandTables$Reader" 20 "HerbrandTables$Reader" "literals" "[LHerbrandTables$Literal;" ∈ gW := gW_of (gin_1 (List.mem_of_getElem? (i := 106) rfl)) rfl
theorem w_1_107 : Cond.fieldLink "HerbrandTables$Reader" 24 "HerbrandTables$Reader" "literalCounts" "[I" ∈ gW := gW_of (gin_1 (List.mem_of_getElem? (i := 107) rfl)) rfl
theorem w_1_108 : Cond.fieldLinkNest "HerbrandTables$Sentence" 113 "HerbrandTables$Reader" "literalCounts" "[I" "HerbrandTables" ∈ gNF := gNF_of (gin_1 (List.mem_of_getElem? (i := 108) rfl)) rfl
theorem w_1_109 : Cond.fieldLinkNest "HerbrandTables$Sentence" 65 "HerbrandTables$Reader" "clauseCount" "I" "HerbrandTables" ∈ gNF := gNF_of (gin_1 (List.mem_of_getElem? (i := 109) rfl)) rfl
theorem w_1_110 : Cond.fieldLink "HerbrandTables$Reader" 42 "HerbrandTables$Reader" "clauseCount" "I" ∈ gW := gW_of (gin_1 (List.mem_of_getElem? (i := 110) rfl)) rfl
theorem w_1_111 : Cond.fieldLink "HerbrandTables$Reader" 29 "HerbrandTables$Reader" "place" "I" ∈ gW := gW_of (gin_1 (List.mem_of_getElem? (i := 111) rfl)) rfl
theorem w_1_112 : Cond.laysFinal "HerbrandTables$Reader" "HerbrandTables$Reader" "vocabulary" "LHerbrandTables$Vocabulary;" ∈ gW := gW_of (gin_1 (List.mem_of_getElem? (i := 112) rfl)) rfl
theorem w_1_114 : Cond.laysFinal "HerbrandTables$Reader" "HerbrandTables$Reader" "literals" "[LHerbrandTables$Literal;" ∈ gW := gW_of (gin_1 (List.mem_of_getElem? (i := 114) rfl)) rfl
theorem w_1_116 : Cond.laysFinal "HerbrandTables$Reader" "HerbrandTables$Reader" "literalCounts" "[I" ∈ gW := gW_of (gin_1 (List.mem_of_getElem? (i := 116) rfl)) rfl
theorem w_1_118 : Cond.lays "HerbrandTables$Reader" "HerbrandTables$Reader" "clauseCount" "I" ∈ gW := gW_of (gin_1 (List.mem_of_getElem? (i := 118) rfl)) rfl
theorem w_1_120 : Cond.lays "HerbrandTables$Reader" "HerbrandTables$Reader" "place" "I" ∈ gW := gW_of (gin_1 (List.mem_of_getElem? (i := 120) rfl)) rfl
theorem w_1_123 : Cond.classLink "HerbrandTables" 23 "HerbrandTables$Sentence" ∈ gW := gW_of (gin_1 (List.mem_of_getElem? (i := 123) rfl)) rfl
theorem w_1_124 : Cond.instantiable "HerbrandTables$Sentence" 10 ∈ gW := gW_of (gin_1 (List.mem_of_getElem? (i := 124) rfl)) rfl
theorem w_1_125 : Cond.methodLink "HerbrandTables" 25 ⟨"HerbrandTables$Sentence", "<init>", "()V"⟩ ∈ gW := gW_of (gin_1 (List.mem_of_getElem? (i := 125) rfl)) rfl
theorem w_1_126 : Cond.instanceMethod ⟨"HerbrandTables$Sentence", "<init>", "()V"⟩ ∈ gW := gW_of (gin_1 (List.mem_of_getElem? (i := 126) rfl)) rfl
theorem w_1_127 : Cond.code ⟨"HerbrandTables$Sentence", "<init>", "()V"⟩ prog_6_method_1_code 2 none ∈ gW := gW_of (gin_1 (List.mem_of_getElem? (i := 127) rfl)) rfl
theorem w_1_128 : Cond.methodLink "HerbrandTables$Sentence" 3 ⟨"java/lang/Object", "<init>", "()V"⟩ ∈ gW := gW_of (gin_1 (List.mem_of_getElem? (i := 128) rfl)) rfl
theorem w_1_129 : Cond.classLink "HerbrandTables$Sentence" 9 "HerbrandTables$Vocabulary" ∈ gW := gW_of (gin_1 (List.mem_of_getElem? (i := 129) rfl)) rfl
theorem w_1_130 : Cond.methodLink "HerbrandTables$Sentence" 11 ⟨"HerbrandTables$Vocabulary", "<init>", "()V"⟩ ∈ gW := gW_of (gin_1 (List.mem_of_getElem? (i := 130) rfl)) rfl
theorem w_1_131 : Cond.classLink "HerbrandTables$Sentence" 22 "HerbrandTables$InstanceSet" ∈ gW := gW_of (gin_1 (List.mem_of_getElem? (i := 131) rfl)) rfl
theorem w_1_132 : Cond.instantiable "HerbrandTables$InstanceSet" 2 ∈ gW := gW_of (gin_1 (List.mem_of_getElem? (i := 132) rfl)) rfl
theorem w_1_133 : Cond.methodLink "HerbrandTables$Sentence" 24 ⟨"HerbrandTables$InstanceSet", "<init>", "(I)V"⟩ ∈ gW := gW_of (gin_1 (List.mem_of_getElem? (i := 133) rfl)) rfl
theorem w_1_134 : Cond.instanceMethod ⟨"HerbrandTables$InstanceSet", "<init>", "(I)V"⟩ ∈ gW := gW_of (gin_1 (List.mem_of_getElem? (i := 134) rfl)) rfl
theorem w_1_135 : Cond.code ⟨"HerbrandTables$InstanceSet", "<init>", "(I)V"⟩ prog_3_method_1_code 2 none ∈ gW := gW_of (gin_1 (List.mem_of_getElem? (i := 135) rfl)) rfl
theorem w_1_136 : Cond.methodLink "HerbrandTables$InstanceSet" 1 ⟨"java/lang/Object", "<init>", "()V"⟩ ∈ gW := gW_of (gin_1 (List.mem_of_getElem? (i := 136) rfl)) rfl
theorem w_1_137 : Cond.fieldLink "HerbrandTables$InstanceSet" 7 "HerbrandTables$InstanceSet" "codes" "[I" ∈ gW := gW_of (gin_1 (List.mem_of_getElem? (i := 137) rfl)) rfl
theorem w_1_138 : Cond.fieldLink "HerbrandTables$InstanceSet" 13 "HerbrandTables$InstanceSet" "size" "I" ∈ gW := gW_of (gin_1 (List.mem_of_getElem? (i := 138) rfl)) rfl
theorem w_1_139 : Cond.fieldLinkNest "HerbrandTables$Sentence" 81 "HerbrandTables$InstanceSet" "size" "I" "HerbrandTables" ∈ gNF := gNF_of (gin_1 (List.mem_of_getElem? (i := 139) rfl)) rfl
theorem w_1_140 : Cond.laysFinal "HerbrandTables$InstanceSet" "HerbrandTables$InstanceSet" "codes" "[I" ∈ gW := gW_of (gin_1 (List.mem_of_getElem? (i := 140) rfl)) rfl
theorem w_1_142 : Cond.lays "HerbrandTables$InstanceSet" "HerbrandTables$InstanceSet" "size" "I" ∈ gW := gW_of (gin_1 (List.mem_of_getElem? (i := 142) rfl)) rfl
theorem w_1_145 : Cond.classLink "HerbrandTables$Sentence" 34 "HerbrandTables$Instance" ∈ gW := gW_of (gin_1 (List.mem_of_getElem? (i := 145) rfl)) rfl
theorem w_1_146 : Cond.instantiable "HerbrandTables$Instance" 2 ∈ gW := gW_of (gin_1 (List.mem_of_getElem? (i := 146) rfl)) rfl
theorem w_1_147 : Cond.methodLinkNest "HerbrandTables$Sentence" 36 ⟨"HerbrandTables$Instance", "<init>", "()V"⟩ "HerbrandTables" ∈ gNF := gNF_of (gin_1 (List.mem_of_getElem? (i := 147) rfl)) rfl
theorem w_1_148 : Cond.instanceMethod ⟨"HerbrandTables$Instance", "<init>", "()V"⟩ ∈ gW := gW_of (gin_1 (List.mem_of_getElem? (i := 148) rfl)) rfl
theorem w_1_149 : Cond.code ⟨"HerbrandTables$Instance", "<init>", "()V"⟩ prog_2_method_1_code 1 none ∈ gW := gW_of (gin_1 (List.mem_of_getElem? (i := 149) rfl)) rfl
theorem w_1_150 : Cond.methodLink "HerbrandTables$Instance" 3 ⟨"java/lang/Object", "<init>", "()V"⟩ ∈ gW := gW_of (gin_1 (List.mem_of_getElem? (i := 150) rfl)) rfl
theorem w_1_151 : Cond.fieldLink "HerbrandTables$Instance" 9 "HerbrandTables$Instance" "trueAtoms" "I" ∈ gW := gW_of (gin_1 (List.mem_of_getElem? (i := 151) rfl)) rfl
theorem w_1_152 : Cond.fieldLink "HerbrandTables$Instance" 15 "HerbrandTables$Instance" "falseAtoms" "I" ∈ gW := gW_of (gin_1 (List.mem_of_getElem? (i := 152) rfl)) rfl
theorem w_1_153 : Cond.lays "HerbrandTables$Instance" "HerbrandTables$Instance" "trueAtoms" "I" ∈ gW := gW_of (gin_1 (List.mem_of_getElem? (i := 153) rfl)) rfl
theorem w_1_155 : Cond.lays "HerbrandTables$Instance" "HerbrandTables$Instance" "falseAtoms" "I" ∈ gW := gW_of (gin_1 (List.mem_of_getElem? (i := 155) rfl)) rfl
theorem w_1_158 : Cond.classLink "HerbrandTables$Sentence" 41 "HerbrandTables$TableSet" ∈ gW := gW_of (gin_1 (List.mem_of_getElem? (i := 158) rfl)) rfl
theorem w_1_160 : Cond.instantiable "HerbrandTables$TableSet" 3 ∈ gW := gW_of (gin_1 (List.mem_of_getElem? (i := 160) rfl)) rfl
theorem w_1_161 : Cond.methodLinkNest "HerbrandTables$Sentence" 47 ⟨"HerbrandTables$TableSet", "<init>", "()V"⟩ "HerbrandTables" ∈ gNF := gNF_of (gin_1 (List.mem_of_getElem? (i := 161) rfl)) rfl
theorem w_1_162 : Cond.instanceMethod ⟨"HerbrandTables$TableSet", "<init>", "()V"⟩ ∈ gW := gW_of (gin_1 (List.mem_of_getElem? (i := 162) rfl)) rfl
theorem w_1_163 : Cond.code ⟨"HerbrandTables$TableSet", "<init>", "()V"⟩ prog_7_method_1_code 1 none ∈ gW := gW_of (gin_1 (List.mem_of_getElem? (i := 163) rfl)) rfl
theorem w_1_164 : Cond.methodLink "HerbrandTables$TableSet" 3 ⟨"java/lang/Object", "<init>", "()V"⟩ ∈ gW := gW_of (gin_1 (List.mem_of_getElem? (i := 164) rfl)) rfl
theorem w_1_165 : Cond.fieldLink "HerbrandTables$TableSet" 9 "HerbrandTables$TableSet" "words" "[J" ∈ gW := gW_of (gin_1 (List.mem_of_getElem? (i := 165) rfl)) rfl
theorem w_1_166 : Cond.fieldLink "HerbrandTables$TableSet" 37 "HerbrandTables$TableSet" "wordCount" "I" ∈ gW := gW_of (gin_1 (List.mem_of_getElem? (i := 166) rfl)) rfl
theorem w_1_167 : Cond.fieldLink "HerbrandTables$TableSet" 51 "HerbrandTables$TableSet" "atomCount" "I" ∈ gW := gW_of (gin_1 (List.mem_of_getElem? (i := 167) rfl)) rfl
theorem w_1_168 : Cond.laysFinal "HerbrandTables$TableSet" "HerbrandTables$TableSet" "words" "[J" ∈ gW := gW_of (gin_1 (List.mem_of_getElem? (i := 168) rfl)) rfl
theorem w_1_170 : Cond.lays "HerbrandTables$TableSet" "HerbrandTables$TableSet" "wordCount" "I" ∈ gW := gW_of (gin_1 (List.mem_of_getElem? (i := 170) rfl)) rfl
theorem w_1_172 : Cond.lays "HerbrandTables$TableSet" "HerbrandTables$TableSet" "atomCount" "I" ∈ gW := gW_of (gin_1 (List.mem_of_getElem? (i := 172) rfl)) rfl
theorem w_1_175 : Cond.arrayClass .long ∈ gW := gW_of (gin_1 (List.mem_of_getElem? (i := 175) rfl)) rfl
theorem w_1_176 : Cond.fieldLink "HerbrandTables$Sentence" 12 "HerbrandTables$Sentence" "vocabulary" "LHerbrandTables$Vocabulary;" ∈ gW := gW_of (gin_1 (List.mem_of_getElem? (i := 176) rfl)) rfl
theorem w_1_177 : Cond.fieldLinkNest "HerbrandTables" 59 "HerbrandTables$Sentence" "vocabulary" "LHerbrandTables$Vocabulary;" "HerbrandTables" ∈ gNF := gNF_of (gin_1 (List.mem_of_getElem? (i := 177) rfl)) rfl
theorem w_1_178 : Cond.fieldLink "HerbrandTables$Sentence" 69 "HerbrandTables$Sentence" "clauseCount" "I" ∈ gW := gW_of (gin_1 (List.mem_of_getElem? (i := 178) rfl)) rfl
theorem w_1_179 : Cond.fieldLinkNest "HerbrandTables" 56 "HerbrandTables$Sentence" "clauseCount" "I" "HerbrandTables" ∈ gNF := gNF_of (gin_1 (List.mem_of_getElem? (i := 179) rfl)) rfl
theorem w_1_180 : Cond.fieldLink "HerbrandTables$Sentence" 18 "HerbrandTables$Sentence" "ownInstances" "[I" ∈ gW := gW_of (gin_1 (List.mem_of_getElem? (i := 180) rfl)) rfl
theorem w_1_181 : Cond.fieldLinkNest "HerbrandTables" 76 "HerbrandTables$Sentence" "ownInstances" "[I" "HerbrandTables" ∈ gNF := gNF_of (gin_1 (List.mem_of_getElem? (i := 181) rfl)) rfl
theorem w_1_182 : Cond.fieldLink "HerbrandTables$Sentence" 27 "HerbrandTables$Sentence" "allInstances" "LHerbrandTables$InstanceSet;" ∈ gW := gW_of (gin_1 (List.mem_of_getElem? (i := 182) rfl)) rfl
theorem w_1_183 : Cond.fieldLink "HerbrandTables$Sentence" 31 "HerbrandTables$Sentence" "clauseInstances" "LHerbrandTables$InstanceSet;" ∈ gW := gW_of (gin_1 (List.mem_of_getElem? (i := 183) rfl)) rfl
theorem w_1_184 : Cond.fieldLink "HerbrandTables$Sentence" 37 "HerbrandTables$Sentence" "instance" "LHerbrandTables$Instance;" ∈ gW := gW_of (gin_1 (List.mem_of_getElem? (i := 184) rfl)) rfl
theorem w_1_185 : Cond.fieldLink "HerbrandTables$Sentence" 43 "HerbrandTables$Sentence" "clauseTables" "[LHerbrandTables$TableSet;" ∈ gW := gW_of (gin_1 (List.mem_of_getElem? (i := 185) rfl)) rfl
theorem w_1_186 : Cond.fieldLink "HerbrandTables$Sentence" 48 "HerbrandTables$Sentence" "instanceTables" "LHerbrandTables$TableSet;" ∈ gW := gW_of (gin_1 (List.mem_of_getElem? (i := 186) rfl)) rfl
theorem w_1_187 : Cond.fieldLink "HerbrandTables$Sentence" 52 "HerbrandTables$Sentence" "commonTables" "LHerbrandTables$TableSet;" ∈ gW := gW_of (gin_1 (List.mem_of_getElem? (i := 187) rfl)) rfl
theorem w_1_188 : Cond.fieldLink "HerbrandTables$Sentence" 55 "HerbrandTables$Sentence" "things" "[I" ∈ gW := gW_of (gin_1 (List.mem_of_getElem? (i := 188) rfl)) rfl
theorem w_1_189 : Cond.laysFinal "HerbrandTables$Sentence" "HerbrandTables$Sentence" "vocabulary" "LHerbrandTables$Vocabulary;" ∈ gW := gW_of (gin_1 (List.mem_of_getElem? (i := 189) rfl)) rfl
theorem w_1_191 : Cond.lays "HerbrandTables$Sentence" "HerbrandTables$Sentence" "clauseCount" "I" ∈ gW := gW_of (gin_1 (List.mem_of_getElem? (i := 191) rfl)) rfl
theorem w_1_193 : Cond.laysFinal "HerbrandTables$Sentence" "HerbrandTables$Sentence" "ownInstances" "[I" ∈ gW := gW_of (gin_1 (List.mem_of_getElem? (i := 193) rfl)) rfl
theorem w_1_195 : Cond.laysFinal "HerbrandTables$Sentence" "HerbrandTables$Sentence" "allInstances" "LHerbrandTables$InstanceSet;" ∈ gW := gW_of (gin_1 (List.mem_of_getElem? (i := 195) rfl)) rfl
theorem w_1_197 : Cond.laysFinal "HerbrandTables$Sentence" "HerbrandTables$Sentence" "clauseInstances" "LHerbrandTables$InstanceSet;" ∈ gW := gW_of (gin_1 (List.mem_of_getElem? (i := 197) rfl)) rfl
theorem w_1_199 : Cond.laysFinal "HerbrandTables$Sentence" "HerbrandTables$Sentence" "instance" "LHerbrandTables$Instance;" ∈ gW := gW_of (gin_1 (List.mem_of_getElem? (i := 199) rfl)) rfl
theorem w_1_201 : Cond.laysFinal "HerbrandTables$Sentence" "HerbrandTables$Sentence" "clauseTables" "[LHerbrandTables$TableSet;" ∈ gW := gW_of (gin_1 (List.mem_of_getElem? (i := 201) rfl)) rfl
theorem w_1_203 : Cond.laysFinal "HerbrandTables$Sentence" "HerbrandTables$Sentence" "instanceTables" "LHerbrandTables$TableSet;" ∈ gW := gW_of (gin_1 (List.mem_of_getElem? (i := 203) rfl)) rfl
theorem w_1_205 : Cond.laysFinal "HerbrandTables$Sentence" "HerbrandTables$Sentence" "commonTables" "LHerbrandTables$TableSet;" ∈ gW := gW_of (gin_1 (List.mem_of_getElem? (i := 205) rfl)) rfl
theorem w_1_207 : Cond.laysFinal "HerbrandTables$Sentence" "HerbrandTables$Sentence" "things" "[I" ∈ gW := gW_of (gin_1 (List.mem_of_getElem? (i := 207) rfl)) rfl
theorem w_1_210 : Cond.fieldLink "HerbrandTables" 12 "HerbrandTables" "text" "LHerbrandTables$Text;" ∈ gW := gW_of (gin_1 (List.mem_of_getElem? (i := 210) rfl)) rfl
theorem w_1_211 : Cond.fieldLink "HerbrandTables" 19 "HerbrandTables" "reader" "LHerbrandTables$Reader;" ∈ gW := gW_of (gin_1 (List.mem_of_getElem? (i := 211) rfl)) rfl
theorem w_1_212 : Cond.fieldLink "HerbrandTables" 26 "HerbrandTables" "sentence" "LHerbrandTables$Sentence;" ∈ gW := gW_of (gin_1 (List.mem_of_getElem? (i := 212) rfl)) rfl
theorem w_1_213 : Cond.fieldLink "HerbrandTables" 30 "HerbrandTables" "latestFault" "I" ∈ gW := gW_of (gin_1 (List.mem_of_getElem? (i := 213) rfl)) rfl
theorem w_1_214 : Cond.laysFinal "HerbrandTables" "HerbrandTables" "text" "LHerbrandTables$Text;" ∈ gW := gW_of (gin_1 (List.mem_of_getElem? (i := 214) rfl)) rfl
theorem w_1_216 : Cond.laysFinal "HerbrandTables" "HerbrandTables" "reader" "LHerbrandTables$Reader;" ∈ gW := gW_of (gin_1 (List.mem_of_getElem? (i := 216) rfl)) rfl
theorem w_1_218 : Cond.laysFinal "HerbrandTables" "HerbrandTables" "sentence" "LHerbrandTables$Sentence;" ∈ gW := gW_of (gin_1 (List.mem_of_getElem? (i := 218) rfl)) rfl
theorem w_1_220 : Cond.lays "HerbrandTables" "HerbrandTables" "latestFault" "I" ∈ gW := gW_of (gin_1 (List.mem_of_getElem? (i := 220) rfl)) rfl
theorem w_1_223 : Cond.methodLink "HerbrandTablesLaw" 47 ⟨"HerbrandTables", "type", "(J)Z"⟩ ∈ gW := gW_of (gin_1 (List.mem_of_getElem? (i := 223) rfl)) rfl
theorem w_1_224 : Cond.instanceMethod ⟨"HerbrandTables", "type", "(J)Z"⟩ ∈ gW := gW_of (gin_1 (List.mem_of_getElem? (i := 224) rfl)) rfl
theorem w_1_225 : Cond.selects "HerbrandTables" ⟨"HerbrandTables", "type", "(J)Z"⟩ ⟨"HerbrandTables", "type", "(J)Z"⟩ ∈ gW := gW_of (gin_1 (List.mem_of_getElem? (i := 225) rfl)) rfl
theorem w_1_226 : Cond.code ⟨"HerbrandTables", "type", "(J)Z"⟩ prog_1_method_2_code 3 (some .boolean) ∈ gW := gW_of (gin_1 (List.mem_of_getElem? (i := 226) rfl)) rfl
theorem w_1_227 : Cond.methodLink "HerbrandTables" 34 ⟨"HerbrandTables$Text", "append", "(J)Z"⟩ ∈ gW := gW_of (gin_1 (List.mem_of_getElem? (i := 227) rfl)) rfl
theorem w_1_228 : Cond.instanceMethod ⟨"HerbrandTables$Text", "append", "(J)Z"⟩ ∈ gW := gW_of (gin_1 (List.mem_of_getElem? (i := 228) rfl)) rfl
theorem w_1_229 : Cond.selects "HerbrandTables$Text" ⟨"HerbrandTables$Text", "append", "(J)Z"⟩ ⟨"HerbrandTables$Text", "append", "(J)Z"⟩ ∈ gW := gW_of (gin_1 (List.mem_of_getElem? (i := 229) rfl)) rfl
theorem w_1_230 : Cond.code ⟨"HerbrandTables$Text", "append", "(J)Z"⟩ prog_8_method_2_code 5 (some .boolean) ∈ gW := gW_of (gin_1 (List.mem_of_getElem? (i := 230) rfl)) rfl
theorem w_1_231 : Cond.methodLink "HerbrandTables$Text" 15 ⟨"HerbrandTables$Text", "countCharacters", "(J)I"⟩ ∈ gW := gW_of (gin_1 (List.mem_of_getElem? (i := 231) rfl)) rfl
theorem w_1_232 : Cond.static ⟨"HerbrandTables$Text", "countCharacters", "(J)I"⟩ ∈ gW := gW_of (gin_1 (List.mem_of_getElem? (i := 232) rfl)) rfl
theorem w_1_233 : Cond.code ⟨"HerbrandTables$Text", "countCharacters", "(J)I"⟩ prog_8_method_5_code 4 (some .int) ∈ gW := gW_of (gin_1 (List.mem_of_getElem? (i := 233) rfl)) rfl
theorem w_1_234 : Cond.methodLink "HerbrandTables$Text" 23 ⟨"HerbrandTables$Text", "character", "(JI)I"⟩ ∈ gW := gW_of (gin_1 (List.mem_of_getElem? (i := 234) rfl)) rfl
theorem w_1_235 : Cond.static ⟨"HerbrandTables$Text", "character", "(JI)I"⟩ ∈ gW := gW_of (gin_1 (List.mem_of_getElem? (i := 235) rfl)) rfl
theorem w_1_236 : Cond.code ⟨"HerbrandTables$Text", "character", "(JI)I"⟩ prog_8_method_6_code 3 (some .int) ∈ gW := gW_of (gin_1 (List.mem_of_getElem? (i := 236) rfl)) rfl
theorem w_1_237 : Cond.methodLink "HerbrandTablesLaw" 52 ⟨"HerbrandTables", "erase", "()I"⟩ ∈ gW := gW_of (gin_1 (List.mem_of_getElem? (i := 237) rfl)) rfl
theorem w_1_238 : Cond.instanceMethod ⟨"HerbrandTables", "erase", "()I"⟩ ∈ gW := gW_of (gin_1 (List.mem_of_getElem? (i := 238) rfl)) rfl
theorem w_1_239 : Cond.selects "HerbrandTables" ⟨"HerbrandTables", "erase", "()I"⟩ ⟨"HerbrandTables", "erase", "()I"⟩ ∈ gW := gW_of (gin_1 (List.mem_of_getElem? (i := 239) rfl)) rfl
theorem w_2_0 : Cond.code ⟨"HerbrandTables", "erase", "()I"⟩ prog_1_method_3_code 1 (some .int) ∈ gW := gW_of (gin_2 (List.mem_of_getElem? (i := 0) rfl)) rfl
theorem w_2_1 : Cond.methodLink "HerbrandTables" 38 ⟨"HerbrandTables$Text", "empty", "()I"⟩ ∈ gW := gW_of (gin_2 (List.mem_of_getElem? (i := 1) rfl)) rfl
theorem w_2_2 : Cond.instanceMethod ⟨"HerbrandTables$Text", "empty", "()I"⟩ ∈ gW := gW_of (gin_2 (List.mem_of_getElem? (i := 2) rfl)) rfl
theorem w_2_3 : Cond.selects "HerbrandTables$Text" ⟨"HerbrandTables$Text", "empty", "()I"⟩ ⟨"HerbrandTables$Text", "empty", "()I"⟩ ∈ gW := gW_of (gin_2 (List.mem_of_getElem? (i := 3) rfl)) rfl
theorem w_2_4 : Cond.code ⟨"HerbrandTables$Text", "empty", "()I"⟩ prog_8_method_3_code 2 (some .int) ∈ gW := gW_of (gin_2 (List.mem_of_getElem? (i := 4) rfl)) rfl
theorem w_2_5 : Cond.methodLink "HerbrandTablesLaw" 65 ⟨"HerbrandTables", "fault", "()I"⟩ ∈ gW := gW_of (gin_2 (List.mem_of_getElem? (i := 5) rfl)) rfl
theorem w_2_6 : Cond.instanceMethod ⟨"HerbrandTables", "fault", "()I"⟩ ∈ gW := gW_of (gin_2 (List.mem_of_getElem? (i := 6) rfl)) rfl
theorem w_2_7 : Cond.selects "HerbrandTables" ⟨"HerbrandTables", "fault", "()I"⟩ ⟨"HerbrandTables", "fault", "()I"⟩ ∈ gW := gW_of (gin_2 (List.mem_of_getElem? (i := 7) rfl)) rfl
theorem w_2_8 : Cond.code ⟨"HerbrandTables", "fault", "()I"⟩ prog_1_method_5_code 1 (some .int) ∈ gW := gW_of (gin_2 (List.mem_of_getElem? (i := 8) rfl)) rfl
theorem w_2_9 : Cond.methodLink "HerbrandTablesLaw" 69 ⟨"HerbrandTables", "clauses", "()I"⟩ ∈ gW := gW_of (gin_2 (List.mem_of_getElem? (i := 9) rfl)) rfl
theorem w_2_10 : Cond.instanceMethod ⟨"HerbrandTables", "clauses", "()I"⟩ ∈ gW := gW_of (gin_2 (List.mem_of_getElem? (i := 10) rfl)) rfl
theorem w_2_11 : Cond.selects "HerbrandTables" ⟨"HerbrandTables", "clauses", "()I"⟩ ⟨"HerbrandTables", "clauses", "()I"⟩ ∈ gW := gW_of (gin_2 (List.mem_of_getElem? (i := 11) rfl)) rfl
theorem w_2_12 : Cond.code ⟨"HerbrandTables", "clauses", "()I"⟩ prog_1_method_6_code 1 (some .int) ∈ gW := gW_of (gin_2 (List.mem_of_getElem? (i := 12) rfl)) rfl
theorem w_2_13 : Cond.methodLink "HerbrandTablesLaw" 73 ⟨"HerbrandTables", "atoms", "()I"⟩ ∈ gW := gW_of (gin_2 (List.mem_of_getElem? (i := 13) rfl)) rfl
theorem w_2_14 : Cond.instanceMethod ⟨"HerbrandTables", "atoms", "()I"⟩ ∈ gW := gW_of (gin_2 (List.mem_of_getElem? (i := 14) rfl)) rfl
theorem w_2_15 : Cond.selects "HerbrandTables" ⟨"HerbrandTables", "atoms", "()I"⟩ ⟨"HerbrandTables", "atoms", "()I"⟩ ∈ gW := gW_of (gin_2 (List.mem_of_getElem? (i := 15) rfl)) rfl
theorem w_2_16 : Cond.code ⟨"HerbrandTables", "atoms", "()I"⟩ prog_1_method_7_code 1 (some .int) ∈ gW := gW_of (gin_2 (List.mem_of_getElem? (i := 16) rfl)) rfl
theorem w_2_17 : Cond.methodLink "HerbrandTablesLaw" 77 ⟨"HerbrandTables", "atom", "(III)I"⟩ ∈ gW := gW_of (gin_2 (List.mem_of_getElem? (i := 17) rfl)) rfl
theorem w_2_18 : Cond.instanceMethod ⟨"HerbrandTables", "atom", "(III)I"⟩ ∈ gW := gW_of (gin_2 (List.mem_of_getElem? (i := 18) rfl)) rfl
theorem w_2_19 : Cond.selects "HerbrandTables" ⟨"HerbrandTables", "atom", "(III)I"⟩ ⟨"HerbrandTables", "atom", "(III)I"⟩ ∈ gW := gW_of (gin_2 (List.mem_of_getElem? (i := 19) rfl)) rfl
theorem w_2_20 : Cond.code ⟨"HerbrandTables", "atom", "(III)I"⟩ prog_1_method_8_code 4 (some .int) ∈ gW := gW_of (gin_2 (List.mem_of_getElem? (i := 20) rfl)) rfl
theorem w_2_21 : Cond.methodLink "HerbrandTables" 68 ⟨"HerbrandTables$Vocabulary", "findAtom", "(III)I"⟩ ∈ gW := gW_of (gin_2 (List.mem_of_getElem? (i := 21) rfl)) rfl
theorem w_2_22 : Cond.instanceMethod ⟨"HerbrandTables$Vocabulary", "findAtom", "(III)I"⟩ ∈ gW := gW_of (gin_2 (List.mem_of_getElem? (i := 22) rfl)) rfl
theorem w_2_23 : Cond.selects "HerbrandTables$Vocabulary" ⟨"HerbrandTables$Vocabulary", "findAtom", "(III)I"⟩ ⟨"HerbrandTables$Vocabulary", "findAtom", "(III)I"⟩ ∈ gW := gW_of (gin_2 (List.mem_of_getElem? (i := 23) rfl)) rfl
theorem w_2_24 : Cond.code ⟨"HerbrandTables$Vocabulary", "findAtom", "(III)I"⟩ prog_9_method_8_code 7 (some .int) ∈ gW := gW_of (gin_2 (List.mem_of_getElem? (i := 24) rfl)) rfl
theorem w_2_25 : Cond.methodLink "HerbrandTables$Vocabulary" 46 ⟨"HerbrandTables$Vocabulary", "findThing", "(I)I"⟩ ∈ gW := gW_of (gin_2 (List.mem_of_getElem? (i := 25) rfl)) rfl
theorem w_2_26 : Cond.instanceMethod ⟨"HerbrandTables$Vocabulary", "findThing", "(I)I"⟩ ∈ gW := gW_of (gin_2 (List.mem_of_getElem? (i := 26) rfl)) rfl
theorem w_2_27 : Cond.selects "HerbrandTables$Vocabulary" ⟨"HerbrandTables$Vocabulary", "findThing", "(I)I"⟩ ⟨"HerbrandTables$Vocabulary", "findThing", "(I)I"⟩ ∈ gW := gW_of (gin_2 (List.mem_of_getElem? (i := 27) rfl)) rfl
theorem w_2_28 : Cond.code ⟨"HerbrandTables$Vocabulary", "findThing", "(I)I"⟩ prog_9_method_6_code 4 (some .int) ∈ gW := gW_of (gin_2 (List.mem_of_getElem? (i := 28) rfl)) rfl
theorem w_2_29 : Cond.methodLink "HerbrandTables$Vocabulary" 37 ⟨"java/lang/Integer", "bitCount", "(I)I"⟩ ∈ gW := gW_of (gin_2 (List.mem_of_getElem? (i := 29) rfl)) rfl
theorem w_2_30 : Cond.static ⟨"java/lang/Integer", "bitCount", "(I)I"⟩ ∈ gW := gW_of (gin_2 (List.mem_of_getElem? (i := 30) rfl)) rfl
theorem w_2_31 : Cond.code ⟨"java/lang/Integer", "bitCount", "(I)I"⟩ prog_16_method_49_code 1 (some .int) ∈ gW := gW_of (gin_2 (List.mem_of_getElem? (i := 31) rfl)) rfl
theorem w_2_32 : Cond.constant "java/lang/Integer" 265 1431655765 ∈ gW := gW_of (gin_2 (List.mem_of_getElem? (i := 32) rfl)) rfl
theorem w_2_33 : Cond.constant "java/lang/Integer" 266 858993459 ∈ gW := gW_of (gin_2 (List.mem_of_getElem? (i := 33) rfl)) rfl
theorem w_2_34 : Cond.constant "java/lang/Integer" 267 252645135 ∈ gW := gW_of (gin_2 (List.mem_of_getElem? (i := 34) rfl)) rfl
theorem w_2_35 : Cond.methodLink "HerbrandTables$Vocabulary" 49 ⟨"HerbrandTables$Vocabulary", "number", "(III)I"⟩ ∈ gW := gW_of (gin_2 (List.mem_of_getElem? (i := 35) rfl)) rfl
theorem w_2_36 : Cond.instanceMethod ⟨"HerbrandTables$Vocabulary", "number", "(III)I"⟩ ∈ gW := gW_of (gin_2 (List.mem_of_getElem? (i := 36) rfl)) rfl
theorem w_2_37 : Cond.selects "HerbrandTables$Vocabulary" ⟨"HerbrandTables$Vocabulary", "number", "(III)I"⟩ ⟨"HerbrandTables$Vocabulary", "number", "(III)I"⟩ ∈ gW := gW_of (gin_2 (List.mem_of_getElem? (i := 37) rfl)) rfl
theorem w_2_38 : Cond.code ⟨"HerbrandTables$Vocabulary", "number", "(III)I"⟩ prog_9_method_7_code 4 (some .int) ∈ gW := gW_of (gin_2 (List.mem_of_getElem? (i := 38) rfl)) rfl
theorem w_2_39 : Cond.methodLink "HerbrandTablesLaw" 82 ⟨"HerbrandTables", "instances", "()I"⟩ ∈ gW := gW_of (gin_2 (List.mem_of_getElem? (i := 39) rfl)) rfl
theorem w_2_40 : Cond.instanceMethod ⟨"HerbrandTables", "instances", "()I"⟩ ∈ gW := gW_of (gin_2 (List.mem_of_getElem? (i := 40) rfl)) rfl
theorem w_2_41 : Cond.selects "HerbrandTables" ⟨"HerbrandTables", "instances", "()I"⟩ ⟨"HerbrandTables", "instances", "()I"⟩ ∈ gW := gW_of (gin_2 (List.mem_of_getElem? (i := 41) rfl)) rfl
theorem w_2_42 : Cond.code ⟨"HerbrandTables", "instances", "()I"⟩ prog_1_method_9_code 1 (some .int) ∈ gW := gW_of (gin_2 (List.mem_of_getElem? (i := 42) rfl)) rfl
theorem w_2_43 : Cond.methodLink "HerbrandTables" 53 ⟨"HerbrandTables$Sentence", "instanceCount", "()I"⟩ ∈ gW := gW_of (gin_2 (List.mem_of_getElem? (i := 43) rfl)) rfl
theorem w_2_44 : Cond.instanceMethod ⟨"HerbrandTables$Sentence", "instanceCount", "()I"⟩ ∈ gW := gW_of (gin_2 (List.mem_of_getElem? (i := 44) rfl)) rfl
theorem w_2_45 : Cond.selects "HerbrandTables$Sentence" ⟨"HerbrandTables$Sentence", "instanceCount", "()I"⟩ ⟨"HerbrandTables$Sentence", "instanceCount", "()I"⟩ ∈ gW := gW_of (gin_2 (List.mem_of_getElem? (i := 45) rfl)) rfl
theorem w_2_46 : Cond.code ⟨"HerbrandTables$Sentence", "instanceCount", "()I"⟩ prog_6_method_3_code 1 (some .int) ∈ gW := gW_of (gin_2 (List.mem_of_getElem? (i := 46) rfl)) rfl
theorem w_2_47 : Cond.methodLink "HerbrandTablesLaw" 86 ⟨"HerbrandTables", "instancesOf", "(I)I"⟩ ∈ gW := gW_of (gin_2 (List.mem_of_getElem? (i := 47) rfl)) rfl
theorem w_2_48 : Cond.instanceMethod ⟨"HerbrandTables", "instancesOf", "(I)I"⟩ ∈ gW := gW_of (gin_2 (List.mem_of_getElem? (i := 48) rfl)) rfl
theorem w_2_49 : Cond.selects "HerbrandTables" ⟨"HerbrandTables", "instancesOf", "(I)I"⟩ ⟨"HerbrandTables", "instancesOf", "(I)I"⟩ ∈ gW := gW_of (gin_2 (List.mem_of_getElem? (i := 49) rfl)) rfl
theorem w_2_50 : Cond.code ⟨"HerbrandTables", "instancesOf", "(I)I"⟩ prog_1_method_10_code 2 (some .int) ∈ gW := gW_of (gin_2 (List.mem_of_getElem? (i := 50) rfl)) rfl
theorem w_2_51 : Cond.methodLink "HerbrandTables" 72 ⟨"HerbrandTables$Sentence", "hasClause", "(I)Z"⟩ ∈ gW := gW_of (gin_2 (List.mem_of_getElem? (i := 51) rfl)) rfl
theorem w_2_52 : Cond.instanceMethod ⟨"HerbrandTables$Sentence", "hasClause", "(I)Z"⟩ ∈ gW := gW_of (gin_2 (List.mem_of_getElem? (i := 52) rfl)) rfl
theorem w_2_53 : Cond.selects "HerbrandTables$Sentence" ⟨"HerbrandTables$Sentence", "hasClause", "(I)Z"⟩ ⟨"HerbrandTables$Sentence", "hasClause", "(I)Z"⟩ ∈ gW := gW_of (gin_2 (List.mem_of_getElem? (i := 53) rfl)) rfl
theorem w_2_54 : Cond.code ⟨"HerbrandTables$Sentence", "hasClause", "(I)Z"⟩ prog_6_method_4_code 2 (some .boolean) ∈ gW := gW_of (gin_2 (List.mem_of_getElem? (i := 54) rfl)) rfl
theorem w_2_55 : Cond.methodLink "HerbrandTablesLaw" 90 ⟨"HerbrandTables", "holds", "()Z"⟩ ∈ gW := gW_of (gin_2 (List.mem_of_getElem? (i := 55) rfl)) rfl
theorem w_2_56 : Cond.instanceMethod ⟨"HerbrandTables", "holds", "()Z"⟩ ∈ gW := gW_of (gin_2 (List.mem_of_getElem? (i := 56) rfl)) rfl
theorem w_2_57 : Cond.selects "HerbrandTables" ⟨"HerbrandTables", "holds", "()Z"⟩ ⟨"HerbrandTables", "holds", "()Z"⟩ ∈ gW := gW_of (gin_2 (List.mem_of_getElem? (i := 57) rfl)) rfl
theorem w_2_58 : Cond.code ⟨"HerbrandTables", "holds", "()Z"⟩ prog_1_method_11_code 1 (some .boolean) ∈ gW := gW_of (gin_2 (List.mem_of_getElem? (i := 58) rfl)) rfl
theorem w_2_59 : Cond.methodLink "HerbrandTables" 80 ⟨"HerbrandTables$Sentence", "everyClause", "()I"⟩ ∈ gW := gW_of (gin_2 (List.mem_of_getElem? (i := 59) rfl)) rfl
theorem w_2_60 : Cond.instanceMethod ⟨"HerbrandTables$Sentence", "everyClause", "()I"⟩ ∈ gW := gW_of (gin_2 (List.mem_of_getElem? (i := 60) rfl)) rfl
theorem w_2_61 : Cond.selects "HerbrandTables$Sentence" ⟨"HerbrandTables$Sentence", "everyClause", "()I"⟩ ⟨"HerbrandTables$Sentence", "everyClause", "()I"⟩ ∈ gW := gW_of (gin_2 (List.mem_of_getElem? (i := 61) rfl)) rfl
theorem w_2_62 : Cond.code ⟨"HerbrandTables$Sentence", "everyClause", "()I"⟩ prog_6_method_5_code 1 (some .int) ∈ gW := gW_of (gin_2 (List.mem_of_getElem? (i := 62) rfl)) rfl
theorem w_2_63 : Cond.methodLink "HerbrandTables" 83 ⟨"HerbrandTables$Sentence", "canHold", "(I)Z"⟩ ∈ gW := gW_of (gin_2 (List.mem_of_getElem? (i := 63) rfl)) rfl
theorem w_2_64 : Cond.instanceMethod ⟨"HerbrandTables$Sentence", "canHold", "(I)Z"⟩ ∈ gW := gW_of (gin_2 (List.mem_of_getElem? (i := 64) rfl)) rfl
theorem w_2_65 : Cond.selects "HerbrandTables$Sentence" ⟨"HerbrandTables$Sentence", "canHold", "(I)Z"⟩ ⟨"HerbrandTables$Sentence", "canHold", "(I)Z"⟩ ∈ gW := gW_of (gin_2 (List.mem_of_getElem? (i := 65) rfl)) rfl
theorem w_2_66 : Cond.code ⟨"HerbrandTables$Sentence", "canHold", "(I)Z"⟩ prog_6_method_7_code 2 (some .boolean) ∈ gW := gW_of (gin_2 (List.mem_of_getElem? (i := 66) rfl)) rfl
theorem w_2_67 : Cond.methodLink "HerbrandTables$Sentence" 94 ⟨"HerbrandTables$Sentence", "tablesOf", "(I)LHerbrandTables$TableSet;"⟩ ∈ gW := gW_of (gin_2 (List.mem_of_getElem? (i := 67) rfl)) rfl
theorem w_2_68 : Cond.instanceMethod ⟨"HerbrandTables$Sentence", "tablesOf", "(I)LHerbrandTables$TableSet;"⟩ ∈ gW := gW_of (gin_2 (List.mem_of_getElem? (i := 68) rfl)) rfl
theorem w_2_69 : Cond.selects "HerbrandTables$Sentence" ⟨"HerbrandTables$Sentence", "tablesOf", "(I)LHerbrandTables$TableSet;"⟩ ⟨"HerbrandTables$Sentence", "tablesOf", "(I)LHerbrandTables$TableSet;"⟩ ∈ gW := gW_of (gin_2 (List.mem_of_getElem? (i := 69) rfl)) rfl
theorem w_2_70 : Cond.code ⟨"HerbrandTables$Sentence", "tablesOf", "(I)LHerbrandTables$TableSet;"⟩ prog_6_method_6_code 3 (some (.object "HerbrandTables$TableSet")) ∈ gW := gW_of (gin_2 (List.mem_of_getElem? (i := 70) rfl)) rfl
theorem w_2_71 : Cond.methodLink "HerbrandTables$Sentence" 87 ⟨"HerbrandTables$TableSet", "fill", "(I)V"⟩ ∈ gW := gW_of (gin_2 (List.mem_of_getElem? (i := 71) rfl)) rfl
theorem w_2_72 : Cond.instanceMethod ⟨"HerbrandTables$TableSet", "fill", "(I)V"⟩ ∈ gW := gW_of (gin_2 (List.mem_of_getElem? (i := 72) rfl)) rfl
theorem w_2_73 : Cond.selects "HerbrandTables$TableSet" ⟨"HerbrandTables$TableSet", "fill", "(I)V"⟩ ⟨"HerbrandTables$TableSet", "fill", "(I)V"⟩ ∈ gW := gW_of (gin_2 (List.mem_of_getElem? (i := 73) rfl)) rfl
theorem w_2_74 : Cond.code ⟨"HerbrandTables$TableSet", "fill", "(I)V"⟩ prog_7_method_2_code 4 none ∈ gW := gW_of (gin_2 (List.mem_of_getElem? (i := 74) rfl)) rfl
theorem w_2_75 : Cond.methodLink "HerbrandTables$TableSet" 15 ⟨"HerbrandTables$TableSet", "measure", "(I)V"⟩ ∈ gW := gW_of (gin_2 (List.mem_of_getElem? (i := 75) rfl)) rfl
theorem w_2_77 : Cond.instanceMethod ⟨"HerbrandTables$TableSet", "measure", "(I)V"⟩ ∈ gW := gW_of (gin_2 (List.mem_of_getElem? (i := 77) rfl)) rfl
theorem w_2_78 : Cond.code ⟨"HerbrandTables$TableSet", "measure", "(I)V"⟩ prog_7_method_11_code 2 none ∈ gW := gW_of (gin_2 (List.mem_of_getElem? (i := 78) rfl)) rfl
theorem w_2_79 : Cond.constantLong "HerbrandTables$TableSet" 19 (-1) ∈ gW := gW_of (gin_2 (List.mem_of_getElem? (i := 79) rfl)) rfl
theorem w_2_80 : Cond.methodLink "HerbrandTables$TableSet" 21 ⟨"java/util/Arrays", "fill", "([JJ)V"⟩ ∈ gW := gW_of (gin_2 (List.mem_of_getElem? (i := 80) rfl)) rfl
theorem w_2_81 : Cond.static ⟨"java/util/Arrays", "fill", "([JJ)V"⟩ ∈ gW := gW_of (gin_2 (List.mem_of_getElem? (i := 81) rfl)) rfl
theorem w_2_82 : Cond.code ⟨"java/util/Arrays", "fill", "([JJ)V"⟩ prog_22_method_101_code 5 none ∈ gW := gW_of (gin_2 (List.mem_of_getElem? (i := 82) rfl)) rfl
theorem w_2_83 : Cond.methodLink "HerbrandTables$Sentence" 90 ⟨"HerbrandTables$TableSet", "keepCommon", "(LHerbrandTables$TableSet;)V"⟩ ∈ gW := gW_of (gin_2 (List.mem_of_getElem? (i := 83) rfl)) rfl
theorem w_2_84 : Cond.instanceMethod ⟨"HerbrandTables$TableSet", "keepCommon", "(LHerbrandTables$TableSet;)V"⟩ ∈ gW := gW_of (gin_2 (List.mem_of_getElem? (i := 84) rfl)) rfl
theorem w_2_85 : Cond.selects "HerbrandTables$TableSet" ⟨"HerbrandTables$TableSet", "keepCommon", "(LHerbrandTables$TableSet;)V"⟩ ⟨"HerbrandTables$TableSet", "keepCommon", "(LHerbrandTables$TableSet;)V"⟩ ∈ gW := gW_of (gin_2 (List.mem_of_getElem? (i := 85) rfl)) rfl
theorem w_2_86 : Cond.code ⟨"HerbrandTables$TableSet", "keepCommon", "(LHerbrandTables$TableSet;)V"⟩ prog_7_method_4_code 3 none ∈ gW := gW_of (gin_2 (List.mem_of_getElem? (i := 86) rfl)) rfl
theorem w_2_87 : Cond.methodLink "HerbrandTables$Sentence" 98 ⟨"HerbrandTables$TableSet", "isEmpty", "()Z"⟩ ∈ gW := gW_of (gin_2 (List.mem_of_getElem? (i := 87) rfl)) rfl
theorem w_2_88 : Cond.instanceMethod ⟨"HerbrandTables$TableSet", "isEmpty", "()Z"⟩ ∈ gW := gW_of (gin_2 (List.mem_of_getElem? (i := 88) rfl)) rfl
theorem w_2_89 : Cond.selects "HerbrandTables$TableSet" ⟨"HerbrandTables$TableSet", "isEmpty", "()Z"⟩ ⟨"HerbrandTables$TableSet", "isEmpty", "()Z"⟩ ∈ gW := gW_of (gin_2 (List.mem_of_getElem? (i := 89) rfl)) rfl
theorem w_2_90 : Cond.code ⟨"HerbrandTables$TableSet", "isEmpty", "()Z"⟩ prog_7_method_5_code 1 (some .boolean) ∈ gW := gW_of (gin_2 (List.mem_of_getElem? (i := 90) rfl)) rfl
theorem w_2_91 : Cond.methodLink "HerbrandTables$TableSet" 41 ⟨"HerbrandTables$TableSet", "size", "()I"⟩ ∈ gW := gW_of (gin_2 (List.mem_of_getElem? (i := 91) rfl)) rfl
theorem w_2_92 : Cond.instanceMethod ⟨"HerbrandTables$TableSet", "size", "()I"⟩ ∈ gW := gW_of (gin_2 (List.mem_of_getElem? (i := 92) rfl)) rfl
theorem w_2_93 : Cond.selects "HerbrandTables$TableSet" ⟨"HerbrandTables$TableSet", "size", "()I"⟩ ⟨"HerbrandTables$TableSet", "size", "()I"⟩ ∈ gW := gW_of (gin_2 (List.mem_of_getElem? (i := 93) rfl)) rfl
theorem w_2_94 : Cond.code ⟨"HerbrandTables$TableSet", "size", "()I"⟩ prog_7_method_6_code 3 (some .int) ∈ gW := gW_of (gin_2 (List.mem_of_getElem? (i := 94) rfl)) rfl
theorem w_2_95 : Cond.methodLink "HerbrandTables$TableSet" 45 ⟨"java/lang/Long", "bitCount", "(J)I"⟩ ∈ gW := gW_of (gin_2 (List.mem_of_getElem? (i := 95) rfl)) rfl
theorem w_2_96 : Cond.static ⟨"java/lang/Long", "bitCount", "(J)I"⟩ ∈ gW := gW_of (gin_2 (List.mem_of_getElem? (i := 96) rfl)) rfl
theorem w_2_97 : Cond.code ⟨"java/lang/Long", "bitCount", "(J)I"⟩ prog_17_method_50_code 2 (some .int) ∈ gW := gW_of (gin_2 (List.mem_of_getElem? (i := 97) rfl)) rfl
theorem w_2_98 : Cond.constantLong "java/lang/Long" 314 6148914691236517205 ∈ gW := gW_of (gin_2 (List.mem_of_getElem? (i := 98) rfl)) rfl
theorem w_2_99 : Cond.constantLong "java/lang/Long" 316 3689348814741910323 ∈ gW := gW_of (gin_2 (List.mem_of_getElem? (i := 99) rfl)) rfl
theorem w_2_100 : Cond.constantLong "java/lang/Long" 318 1085102592571150095 ∈ gW := gW_of (gin_2 (List.mem_of_getElem? (i := 100) rfl)) rfl
theorem w_2_101 : Cond.methodLink "HerbrandTablesLaw" 56 ⟨"HerbrandTablesLaw", "read", "(LHerbrandTables;[J)I"⟩ ∈ gW := gW_of (gin_2 (List.mem_of_getElem? (i := 101) rfl)) rfl
theorem w_2_102 : Cond.static ⟨"HerbrandTablesLaw", "read", "(LHerbrandTables;[J)I"⟩ ∈ gW := gW_of (gin_2 (List.mem_of_getElem? (i := 102) rfl)) rfl
theorem w_2_103 : Cond.codeWith ⟨"HerbrandTablesLaw", "read", "(LHerbrandTables;[J)I"⟩ method_3_code 3 (some .int) [(0, 8, 11, 13)] ∈ gW := gW_of (gin_2 (List.mem_of_getElem? (i := 103) rfl)) rfl
theorem w_2_105 : Cond.methodLink "HerbrandTablesLaw" 7 ⟨"HerbrandTables", "read", "()I"⟩ ∈ gW := gW_of (gin_2 (List.mem_of_getElem? (i := 105) rfl)) rfl
theorem w_2_106 : Cond.instanceMethod ⟨"HerbrandTables", "read", "()I"⟩ ∈ gW := gW_of (gin_2 (List.mem_of_getElem? (i := 106) rfl)) rfl
theorem w_2_107 : Cond.selects "HerbrandTables" ⟨"HerbrandTables", "read", "()I"⟩ ⟨"HerbrandTables", "read", "()I"⟩ ∈ gW := gW_of (gin_2 (List.mem_of_getElem? (i := 107) rfl)) rfl
theorem w_2_108 : Cond.code ⟨"HerbrandTables", "read", "()I"⟩ prog_1_method_4_code 1 (some .int) ∈ gW := gW_of (gin_2 (List.mem_of_getElem? (i := 108) rfl)) rfl
theorem w_2_109 : Cond.methodLink "HerbrandTables" 42 ⟨"HerbrandTables$Reader", "findFault", "(LHerbrandTables$Text;)I"⟩ ∈ gW := gW_of (gin_2 (List.mem_of_getElem? (i := 109) rfl)) rfl
theorem w_2_110 : Cond.instanceMethod ⟨"HerbrandTables$Reader", "findFault", "(LHerbrandTables$Text;)I"⟩ ∈ gW := gW_of (gin_2 (List.mem_of_getElem? (i := 110) rfl)) rfl
theorem w_2_111 : Cond.selects "HerbrandTables$Reader" ⟨"HerbrandTables$Reader", "findFault", "(LHerbrandTables$Text;)I"⟩ ⟨"HerbrandTables$Reader", "findFault", "(LHerbrandTables$Text;)I"⟩ ∈ gW := gW_of (gin_2 (List.mem_of_getElem? (i := 111) rfl)) rfl
theorem w_2_112 : Cond.code ⟨"HerbrandTables$Reader", "findFault", "(LHerbrandTables$Text;)I"⟩ prog_5_method_2_code 3 (some .int) ∈ gW := gW_of (gin_2 (List.mem_of_getElem? (i := 112) rfl)) rfl
theorem w_2_113 : Cond.methodLink "HerbrandTables$Reader" 33 ⟨"HerbrandTables$Vocabulary", "clear", "()V"⟩ ∈ gW := gW_of (gin_2 (List.mem_of_getElem? (i := 113) rfl)) rfl
theorem w_2_114 : Cond.instanceMethod ⟨"HerbrandTables$Vocabulary", "clear", "()V"⟩ ∈ gW := gW_of (gin_2 (List.mem_of_getElem? (i := 114) rfl)) rfl
theorem w_2_115 : Cond.selects "HerbrandTables$Vocabulary" ⟨"HerbrandTables$Vocabulary", "clear", "()V"⟩ ⟨"HerbrandTables$Vocabulary", "clear", "()V"⟩ ∈ gW := gW_of (gin_2 (List.mem_of_getElem? (i := 115) rfl)) rfl
theorem w_2_116 : Cond.code ⟨"HerbrandTables$Vocabulary", "clear", "()V"⟩ prog_9_method_2_code 1 none ∈ gW := gW_of (gin_2 (List.mem_of_getElem? (i := 116) rfl)) rfl
theorem w_2_117 : Cond.methodLink "HerbrandTables$Vocabulary" 28 ⟨"HerbrandTables$Vocabulary", "recount", "()V"⟩ ∈ gW := gW_of (gin_2 (List.mem_of_getElem? (i := 117) rfl)) rfl
theorem w_2_119 : Cond.instanceMethod ⟨"HerbrandTables$Vocabulary", "recount", "()V"⟩ ∈ gW := gW_of (gin_2 (List.mem_of_getElem? (i := 119) rfl)) rfl
theorem w_2_120 : Cond.code ⟨"HerbrandTables$Vocabulary", "recount", "()V"⟩ prog_9_method_9_code 2 none ∈ gW := gW_of (gin_2 (List.mem_of_getElem? (i := 120) rfl)) rfl
theorem w_2_121 : Cond.methodLink "HerbrandTables$Vocabulary" 53 ⟨"java/lang/Math", "max", "(II)I"⟩ ∈ gW := gW_of (gin_2 (List.mem_of_getElem? (i := 121) rfl)) rfl
theorem w_2_122 : Cond.static ⟨"java/lang/Math", "max", "(II)I"⟩ ∈ gW := gW_of (gin_2 (List.mem_of_getElem? (i := 122) rfl)) rfl
theorem w_2_123 : Cond.code ⟨"java/lang/Math", "max", "(II)I"⟩ prog_18_method_65_code 2 (some .int) ∈ gW := gW_of (gin_2 (List.mem_of_getElem? (i := 123) rfl)) rfl
theorem w_2_124 : Cond.methodLink "HerbrandTables$Vocabulary" 62 ⟨"HerbrandTables$Vocabulary", "countAtoms", "(I)I"⟩ ∈ gW := gW_of (gin_2 (List.mem_of_getElem? (i := 124) rfl)) rfl
theorem w_2_126 : Cond.instanceMethod ⟨"HerbrandTables$Vocabulary", "countAtoms", "(I)I"⟩ ∈ gW := gW_of (gin_2 (List.mem_of_getElem? (i := 126) rfl)) rfl
theorem w_2_127 : Cond.code ⟨"HerbrandTables$Vocabulary", "countAtoms", "(I)I"⟩ prog_9_method_10_code 2 (some .int) ∈ gW := gW_of (gin_2 (List.mem_of_getElem? (i := 127) rfl)) rfl
theorem w_2_128 : Cond.methodLink "HerbrandTables$Reader" 36 ⟨"java/util/Arrays", "fill", "([II)V"⟩ ∈ gW := gW_of (gin_2 (List.mem_of_getElem? (i := 128) rfl)) rfl
theorem w_2_129 : Cond.methodLink "HerbrandTables$Reader" 45 ⟨"HerbrandTables$Reader", "readLiteral", "(LHerbrandTables$Text;)Z"⟩ ∈ gW := gW_of (gin_2 (List.mem_of_getElem? (i := 129) rfl)) rfl
theorem w_2_131 : Cond.instanceMethod ⟨"HerbrandTables$Reader", "readLiteral", "(LHerbrandTables$Text;)Z"⟩ ∈ gW := gW_of (gin_2 (List.mem_of_getElem? (i := 131) rfl)) rfl
theorem w_2_132 : Cond.code ⟨"HerbrandTables$Reader", "readLiteral", "(LHerbrandTables$Text;)Z"⟩ prog_5_method_4_code 4 (some .boolean) ∈ gW := gW_of (gin_2 (List.mem_of_getElem? (i := 132) rfl)) rfl
theorem w_2_133 : Cond.methodLink "HerbrandTables$Reader" 57 ⟨"HerbrandTables$Reader", "literal", "(II)LHerbrandTables$Literal;"⟩ ∈ gW := gW_of (gin_2 (List.mem_of_getElem? (i := 133) rfl)) rfl
theorem w_2_134 : Cond.instanceMethod ⟨"HerbrandTables$Reader", "literal", "(II)LHerbrandTables$Literal;"⟩ ∈ gW := gW_of (gin_2 (List.mem_of_getElem? (i := 134) rfl)) rfl
theorem w_2_135 : Cond.selects "HerbrandTables$Reader" ⟨"HerbrandTables$Reader", "literal", "(II)LHerbrandTables$Literal;"⟩ ⟨"HerbrandTables$Reader", "literal", "(II)LHerbrandTables$Literal;"⟩ ∈ gW := gW_of (gin_2 (List.mem_of_getElem? (i := 135) rfl)) rfl
theorem w_2_136 : Cond.code ⟨"HerbrandTables$Reader", "literal", "(II)LHerbrandTables$Literal;"⟩ prog_5_method_3_code 3 (some (.object "HerbrandTables$Literal")) ∈ gW := gW_of (gin_2 (List.mem_of_getElem? (i := 136) rfl)) rfl
theorem w_2_137 : Cond.methodLink "HerbrandTables$Reader" 61 ⟨"HerbrandTables$Text", "at", "(I)C"⟩ ∈ gW := gW_of (gin_2 (List.mem_of_getElem? (i := 137) rfl)) rfl
theorem w_2_138 : Cond.instanceMethod ⟨"HerbrandTables$Text", "at", "(I)C"⟩ ∈ gW := gW_of (gin_2 (List.mem_of_getElem? (i := 138) rfl)) rfl
theorem w_2_139 : Cond.selects "HerbrandTables$Text" ⟨"HerbrandTables$Text", "at", "(I)C"⟩ ⟨"HerbrandTables$Text", "at", "(I)C"⟩ ∈ gW := gW_of (gin_2 (List.mem_of_getElem? (i := 139) rfl)) rfl
theorem w_2_140 : Cond.code ⟨"HerbrandTables$Text", "at", "(I)C"⟩ prog_8_method_4_code 2 (some .char) ∈ gW := gW_of (gin_2 (List.mem_of_getElem? (i := 140) rfl)) rfl
theorem w_2_141 : Cond.methodLink "HerbrandTables$Reader" 69 ⟨"HerbrandTables$Reader", "predicateOf", "(C)I"⟩ ∈ gW := gW_of (gin_2 (List.mem_of_getElem? (i := 141) rfl)) rfl
theorem w_2_142 : Cond.static ⟨"HerbrandTables$Reader", "predicateOf", "(C)I"⟩ ∈ gW := gW_of (gin_2 (List.mem_of_getElem? (i := 142) rfl)) rfl
theorem w_2_143 : Cond.code ⟨"HerbrandTables$Reader", "predicateOf", "(C)I"⟩ prog_5_method_7_code 1 (some .int) ∈ gW := gW_of (gin_2 (List.mem_of_getElem? (i := 143) rfl)) rfl
theorem w_2_144 : Cond.methodLink "HerbrandTables$Reader" 76 ⟨"HerbrandTables$Reader", "readArguments", "(LHerbrandTables$Text;LHerbrandTables$Literal;)Z"⟩ ∈ gW := gW_of (gin_2 (List.mem_of_getElem? (i := 144) rfl)) rfl
theorem w_2_146 : Cond.instanceMethod ⟨"HerbrandTables$Reader", "readArguments", "(LHerbrandTables$Text;LHerbrandTables$Literal;)Z"⟩ ∈ gW := gW_of (gin_2 (List.mem_of_getElem? (i := 146) rfl)) rfl
theorem w_2_147 : Cond.code ⟨"HerbrandTables$Reader", "readArguments", "(LHerbrandTables$Text;LHerbrandTables$Literal;)Z"⟩ prog_5_method_5_code 7 (some .boolean) ∈ gW := gW_of (gin_2 (List.mem_of_getElem? (i := 147) rfl)) rfl
theorem w_2_148 : Cond.methodLink "HerbrandTables$Reader" 83 ⟨"HerbrandTables$Reader", "argumentOf", "(C)I"⟩ ∈ gW := gW_of (gin_2 (List.mem_of_getElem? (i := 148) rfl)) rfl
theorem w_2_149 : Cond.static ⟨"HerbrandTables$Reader", "argumentOf", "(C)I"⟩ ∈ gW := gW_of (gin_2 (List.mem_of_getElem? (i := 149) rfl)) rfl
theorem w_2_150 : Cond.code ⟨"HerbrandTables$Reader", "argumentOf", "(C)I"⟩ prog_5_method_8_code 1 (some .int) ∈ gW := gW_of (gin_2 (List.mem_of_getElem? (i := 150) rfl)) rfl
theorem w_2_151 : Cond.methodLink "HerbrandTables$Reader" 86 ⟨"HerbrandTables$Vocabulary", "addConstant", "(I)V"⟩ ∈ gW := gW_of (gin_2 (List.mem_of_getElem? (i := 151) rfl)) rfl
theorem w_2_152 : Cond.instanceMethod ⟨"HerbrandTables$Vocabulary", "addConstant", "(I)V"⟩ ∈ gW := gW_of (gin_2 (List.mem_of_getElem? (i := 152) rfl)) rfl
theorem w_2_153 : Cond.selects "HerbrandTables$Vocabulary" ⟨"HerbrandTables$Vocabulary", "addConstant", "(I)V"⟩ ⟨"HerbrandTables$Vocabulary", "addConstant", "(I)V"⟩ ∈ gW := gW_of (gin_2 (List.mem_of_getElem? (i := 153) rfl)) rfl
theorem w_2_154 : Cond.code ⟨"HerbrandTables$Vocabulary", "addConstant", "(I)V"⟩ prog_9_method_5_code 2 none ∈ gW := gW_of (gin_2 (List.mem_of_getElem? (i := 154) rfl)) rfl
theorem w_2_155 : Cond.methodLink "HerbrandTables$Reader" 94 ⟨"HerbrandTables$Vocabulary", "addPredicate", "(II)V"⟩ ∈ gW := gW_of (gin_2 (List.mem_of_getElem? (i := 155) rfl)) rfl
theorem w_2_156 : Cond.instanceMethod ⟨"HerbrandTables$Vocabulary", "addPredicate", "(II)V"⟩ ∈ gW := gW_of (gin_2 (List.mem_of_getElem? (i := 156) rfl)) rfl
theorem w_2_157 : Cond.selects "HerbrandTables$Vocabulary" ⟨"HerbrandTables$Vocabulary", "addPredicate", "(II)V"⟩ ⟨"HerbrandTables$Vocabulary", "addPredicate", "(II)V"⟩ ∈ gW := gW_of (gin_2 (List.mem_of_getElem? (i := 157) rfl)) rfl
theorem w_2_158 : Cond.code ⟨"HerbrandTables$Vocabulary", "addPredicate", "(II)V"⟩ prog_9_method_4_code 3 none ∈ gW := gW_of (gin_2 (List.mem_of_getElem? (i := 158) rfl)) rfl
theorem w_2_159 : Cond.methodLink "HerbrandTables$Reader" 54 ⟨"HerbrandTables$Reader", "readJoint", "(LHerbrandTables$Text;)Z"⟩ ∈ gW := gW_of (gin_2 (List.mem_of_getElem? (i := 159) rfl)) rfl
theorem w_2_161 : Cond.instanceMethod ⟨"HerbrandTables$Reader", "readJoint", "(LHerbrandTables$Text;)Z"⟩ ∈ gW := gW_of (gin_2 (List.mem_of_getElem? (i := 161) rfl)) rfl
theorem w_2_162 : Cond.code ⟨"HerbrandTables$Reader", "readJoint", "(LHerbrandTables$Text;)Z"⟩ prog_5_method_6_code 3 (some .boolean) ∈ gW := gW_of (gin_2 (List.mem_of_getElem? (i := 162) rfl)) rfl
theorem w_2_163 : Cond.classLink "HerbrandTables" 46 "java/lang/IllegalArgumentException" ∈ gW := gW_of (gin_2 (List.mem_of_getElem? (i := 163) rfl)) rfl
theorem w_2_227 : Cond.methodLink "HerbrandTables" 49 ⟨"HerbrandTables$Sentence", "become", "(LHerbrandTables$Reader;)V"⟩ ∈ gW := gW_of (gin_2 (List.mem_of_getElem? (i := 227) rfl)) rfl
theorem w_2_228 : Cond.instanceMethod ⟨"HerbrandTables$Sentence", "become", "(LHerbrandTables$Reader;)V"⟩ ∈ gW := gW_of (gin_2 (List.mem_of_getElem? (i := 228) rfl)) rfl
theorem w_2_229 : Cond.selects "HerbrandTables$Sentence" ⟨"HerbrandTables$Sentence", "become", "(LHerbrandTables$Reader;)V"⟩ ⟨"HerbrandTables$Sentence", "become", "(LHerbrandTables$Reader;)V"⟩ ∈ gW := gW_of (gin_2 (List.mem_of_getElem? (i := 229) rfl)) rfl
theorem w_2_230 : Cond.code ⟨"HerbrandTables$Sentence", "become", "(LHerbrandTables$Reader;)V"⟩ prog_6_method_2_code 3 none ∈ gW := gW_of (gin_2 (List.mem_of_getElem? (i := 230) rfl)) rfl
theorem w_2_231 : Cond.methodLink "HerbrandTables$Sentence" 61 ⟨"HerbrandTables$Vocabulary", "become", "(LHerbrandTables$Vocabulary;)V"⟩ ∈ gW := gW_of (gin_2 (List.mem_of_getElem? (i := 231) rfl)) rfl
theorem w_2_232 : Cond.instanceMethod ⟨"HerbrandTables$Vocabulary", "become", "(LHerbrandTables$Vocabulary;)V"⟩ ∈ gW := gW_of (gin_2 (List.mem_of_getElem? (i := 232) rfl)) rfl
theorem w_2_233 : Cond.selects "HerbrandTables$Vocabulary" ⟨"HerbrandTables$Vocabulary", "become", "(LHerbrandTables$Vocabulary;)V"⟩ ⟨"HerbrandTables$Vocabulary", "become", "(LHerbrandTables$Vocabulary;)V"⟩ ∈ gW := gW_of (gin_2 (List.mem_of_getElem? (i := 233) rfl)) rfl
theorem w_2_234 : Cond.code ⟨"HerbrandTables$Vocabulary", "become", "(LHerbrandTables$Vocabulary;)V"⟩ prog_9_method_3_code 2 none ∈ gW := gW_of (gin_2 (List.mem_of_getElem? (i := 234) rfl)) rfl
theorem w_2_238 : Cond.methodLink "HerbrandTables$Sentence" 70 ⟨"HerbrandTables$InstanceSet", "clear", "()V"⟩ ∈ gW := gW_of (gin_2 (List.mem_of_getElem? (i := 238) rfl)) rfl
theorem w_2_239 : Cond.instanceMethod ⟨"HerbrandTables$InstanceSet", "clear", "()V"⟩ ∈ gW := gW_of (gin_2 (List.mem_of_getElem? (i := 239) rfl)) rfl
theorem w_3_0 : Cond.selects "HerbrandTables$InstanceSet" ⟨"HerbrandTables$InstanceSet", "clear", "()V"⟩ ⟨"HerbrandTables$InstanceSet", "clear", "()V"⟩ ∈ gW := gW_of (gin_3 (List.mem_of_getElem? (i := 0) rfl)) rfl
theorem w_3_1 : Cond.code ⟨"HerbrandTables$InstanceSet", "clear", "()V"⟩ prog_3_method_2_code 1 none ∈ gW := gW_of (gin_3 (List.mem_of_getElem? (i := 1) rfl)) rfl
theorem w_3_2 : Cond.methodLink "HerbrandTables$Sentence" 73 ⟨"HerbrandTables$Vocabulary", "findThing", "(I)I"⟩ ∈ gW := gW_of (gin_3 (List.mem_of_getElem? (i := 2) rfl)) rfl
theorem w_3_3 : Cond.methodLink "HerbrandTables$Sentence" 77 ⟨"HerbrandTables$Sentence", "makeInstances", "(LHerbrandTables$Reader;I)V"⟩ ∈ gW := gW_of (gin_3 (List.mem_of_getElem? (i := 3) rfl)) rfl
theorem w_3_5 : Cond.instanceMethod ⟨"HerbrandTables$Sentence", "makeInstances", "(LHerbrandTables$Reader;I)V"⟩ ∈ gW := gW_of (gin_3 (List.mem_of_getElem? (i := 5) rfl)) rfl
theorem w_3_6 : Cond.code ⟨"HerbrandTables$Sentence", "makeInstances", "(LHerbrandTables$Reader;I)V"⟩ prog_6_method_9_code 7 none ∈ gW := gW_of (gin_3 (List.mem_of_getElem? (i := 6) rfl)) rfl
theorem w_3_7 : Cond.methodLink "HerbrandTables$Sentence" 109 ⟨"HerbrandTables$Sentence", "makeInstance", "(LHerbrandTables$Reader;I)V"⟩ ∈ gW := gW_of (gin_3 (List.mem_of_getElem? (i := 7) rfl)) rfl
theorem w_3_9 : Cond.instanceMethod ⟨"HerbrandTables$Sentence", "makeInstance", "(LHerbrandTables$Reader;I)V"⟩ ∈ gW := gW_of (gin_3 (List.mem_of_getElem? (i := 9) rfl)) rfl
theorem w_3_10 : Cond.code ⟨"HerbrandTables$Sentence", "makeInstance", "(LHerbrandTables$Reader;I)V"⟩ prog_6_method_10_code 5 none ∈ gW := gW_of (gin_3 (List.mem_of_getElem? (i := 10) rfl)) rfl
theorem w_3_11 : Cond.methodLink "HerbrandTables$Sentence" 112 ⟨"HerbrandTables$Instance", "clear", "()V"⟩ ∈ gW := gW_of (gin_3 (List.mem_of_getElem? (i := 11) rfl)) rfl
theorem w_3_12 : Cond.instanceMethod ⟨"HerbrandTables$Instance", "clear", "()V"⟩ ∈ gW := gW_of (gin_3 (List.mem_of_getElem? (i := 12) rfl)) rfl
theorem w_3_13 : Cond.selects "HerbrandTables$Instance" ⟨"HerbrandTables$Instance", "clear", "()V"⟩ ⟨"HerbrandTables$Instance", "clear", "()V"⟩ ∈ gW := gW_of (gin_3 (List.mem_of_getElem? (i := 13) rfl)) rfl
theorem w_3_14 : Cond.code ⟨"HerbrandTables$Instance", "clear", "()V"⟩ prog_2_method_2_code 1 none ∈ gW := gW_of (gin_3 (List.mem_of_getElem? (i := 14) rfl)) rfl
theorem w_3_15 : Cond.methodLink "HerbrandTables$Sentence" 116 ⟨"HerbrandTables$Reader", "literal", "(II)LHerbrandTables$Literal;"⟩ ∈ gW := gW_of (gin_3 (List.mem_of_getElem? (i := 15) rfl)) rfl
theorem w_3_16 : Cond.methodLink "HerbrandTables$Sentence" 120 ⟨"HerbrandTables$Sentence", "atomOf", "(LHerbrandTables$Literal;)I"⟩ ∈ gW := gW_of (gin_3 (List.mem_of_getElem? (i := 16) rfl)) rfl
theorem w_3_18 : Cond.instanceMethod ⟨"HerbrandTables$Sentence", "atomOf", "(LHerbrandTables$Literal;)I"⟩ ∈ gW := gW_of (gin_3 (List.mem_of_getElem? (i := 18) rfl)) rfl
theorem w_3_19 : Cond.code ⟨"HerbrandTables$Sentence", "atomOf", "(LHerbrandTables$Literal;)I"⟩ prog_6_method_11_code 4 (some .int) ∈ gW := gW_of (gin_3 (List.mem_of_getElem? (i := 19) rfl)) rfl
theorem w_3_20 : Cond.methodLink "HerbrandTables$Sentence" 153 ⟨"HerbrandTables$Vocabulary", "number", "(III)I"⟩ ∈ gW := gW_of (gin_3 (List.mem_of_getElem? (i := 20) rfl)) rfl
theorem w_3_21 : Cond.methodLink "HerbrandTables$Sentence" 130 ⟨"HerbrandTables$Instance", "add", "(IZ)V"⟩ ∈ gW := gW_of (gin_3 (List.mem_of_getElem? (i := 21) rfl)) rfl
theorem w_3_22 : Cond.instanceMethod ⟨"HerbrandTables$Instance", "add", "(IZ)V"⟩ ∈ gW := gW_of (gin_3 (List.mem_of_getElem? (i := 22) rfl)) rfl
theorem w_3_23 : Cond.selects "HerbrandTables$Instance" ⟨"HerbrandTables$Instance", "add", "(IZ)V"⟩ ⟨"HerbrandTables$Instance", "add", "(IZ)V"⟩ ∈ gW := gW_of (gin_3 (List.mem_of_getElem? (i := 23) rfl)) rfl
theorem w_3_24 : Cond.code ⟨"HerbrandTables$Instance", "add", "(IZ)V"⟩ prog_2_method_3_code 3 none ∈ gW := gW_of (gin_3 (List.mem_of_getElem? (i := 24) rfl)) rfl
theorem w_3_25 : Cond.methodLink "HerbrandTables$Sentence" 134 ⟨"HerbrandTables$Instance", "isLeftOut", "()Z"⟩ ∈ gW := gW_of (gin_3 (List.mem_of_getElem? (i := 25) rfl)) rfl
theorem w_3_26 : Cond.instanceMethod ⟨"HerbrandTables$Instance", "isLeftOut", "()Z"⟩ ∈ gW := gW_of (gin_3 (List.mem_of_getElem? (i := 26) rfl)) rfl
theorem w_3_27 : Cond.selects "HerbrandTables$Instance" ⟨"HerbrandTables$Instance", "isLeftOut", "()Z"⟩ ⟨"HerbrandTables$Instance", "isLeftOut", "()Z"⟩ ∈ gW := gW_of (gin_3 (List.mem_of_getElem? (i := 27) rfl)) rfl
theorem w_3_28 : Cond.code ⟨"HerbrandTables$Instance", "isLeftOut", "()Z"⟩ prog_2_method_5_code 1 (some .boolean) ∈ gW := gW_of (gin_3 (List.mem_of_getElem? (i := 28) rfl)) rfl
theorem w_3_29 : Cond.methodLink "HerbrandTables$Sentence" 137 ⟨"HerbrandTables$Instance", "code", "()I"⟩ ∈ gW := gW_of (gin_3 (List.mem_of_getElem? (i := 29) rfl)) rfl
theorem w_3_30 : Cond.instanceMethod ⟨"HerbrandTables$Instance", "code", "()I"⟩ ∈ gW := gW_of (gin_3 (List.mem_of_getElem? (i := 30) rfl)) rfl
theorem w_3_31 : Cond.selects "HerbrandTables$Instance" ⟨"HerbrandTables$Instance", "code", "()I"⟩ ⟨"HerbrandTables$Instance", "code", "()I"⟩ ∈ gW := gW_of (gin_3 (List.mem_of_getElem? (i := 31) rfl)) rfl
theorem w_3_32 : Cond.code ⟨"HerbrandTables$Instance", "code", "()I"⟩ prog_2_method_6_code 1 (some .int) ∈ gW := gW_of (gin_3 (List.mem_of_getElem? (i := 32) rfl)) rfl
theorem w_3_33 : Cond.methodLink "HerbrandTables$Sentence" 141 ⟨"HerbrandTables$InstanceSet", "add", "(I)Z"⟩ ∈ gW := gW_of (gin_3 (List.mem_of_getElem? (i := 33) rfl)) rfl
theorem w_3_34 : Cond.instanceMethod ⟨"HerbrandTables$InstanceSet", "add", "(I)Z"⟩ ∈ gW := gW_of (gin_3 (List.mem_of_getElem? (i := 34) rfl)) rfl
theorem w_3_35 : Cond.selects "HerbrandTables$InstanceSet" ⟨"HerbrandTables$InstanceSet", "add", "(I)Z"⟩ ⟨"HerbrandTables$InstanceSet", "add", "(I)Z"⟩ ∈ gW := gW_of (gin_3 (List.mem_of_getElem? (i := 35) rfl)) rfl
theorem w_3_36 : Cond.code ⟨"HerbrandTables$InstanceSet", "add", "(I)Z"⟩ prog_3_method_3_code 3 (some .boolean) ∈ gW := gW_of (gin_3 (List.mem_of_getElem? (i := 36) rfl)) rfl
theorem w_3_37 : Cond.methodLink "HerbrandTables$Sentence" 143 ⟨"HerbrandTables$TableSet", "becomeTablesOf", "(LHerbrandTables$Instance;I)V"⟩ ∈ gW := gW_of (gin_3 (List.mem_of_getElem? (i := 37) rfl)) rfl
theorem w_3_38 : Cond.instanceMethod ⟨"HerbrandTables$TableSet", "becomeTablesOf", "(LHerbrandTables$Instance;I)V"⟩ ∈ gW := gW_of (gin_3 (List.mem_of_getElem? (i := 38) rfl)) rfl
theorem w_3_39 : Cond.selects "HerbrandTables$TableSet" ⟨"HerbrandTables$TableSet", "becomeTablesOf", "(LHerbrandTables$Instance;I)V"⟩ ⟨"HerbrandTables$TableSet", "becomeTablesOf", "(LHerbrandTables$Instance;I)V"⟩ ∈ gW := gW_of (gin_3 (List.mem_of_getElem? (i := 39) rfl)) rfl
theorem w_3_40 : Cond.code ⟨"HerbrandTables$TableSet", "becomeTablesOf", "(LHerbrandTables$Instance;I)V"⟩ prog_7_method_3_code 4 none ∈ gW := gW_of (gin_3 (List.mem_of_getElem? (i := 40) rfl)) rfl
theorem w_3_41 : Cond.methodLink "HerbrandTables$TableSet" 27 ⟨"HerbrandTables$Instance", "wants", "(IZ)Z"⟩ ∈ gW := gW_of (gin_3 (List.mem_of_getElem? (i := 41) rfl)) rfl
theorem w_3_42 : Cond.instanceMethod ⟨"HerbrandTables$Instance", "wants", "(IZ)Z"⟩ ∈ gW := gW_of (gin_3 (List.mem_of_getElem? (i := 42) rfl)) rfl
theorem w_3_43 : Cond.selects "HerbrandTables$Instance" ⟨"HerbrandTables$Instance", "wants", "(IZ)Z"⟩ ⟨"HerbrandTables$Instance", "wants", "(IZ)Z"⟩ ∈ gW := gW_of (gin_3 (List.mem_of_getElem? (i := 43) rfl)) rfl
theorem w_3_44 : Cond.code ⟨"HerbrandTables$Instance", "wants", "(IZ)Z"⟩ prog_2_method_4_code 3 (some .boolean) ∈ gW := gW_of (gin_3 (List.mem_of_getElem? (i := 44) rfl)) rfl
theorem w_3_45 : Cond.methodLink "HerbrandTables$TableSet" 33 ⟨"HerbrandTables$TableSet", "addTablesWith", "(IZ)V"⟩ ∈ gW := gW_of (gin_3 (List.mem_of_getElem? (i := 45) rfl)) rfl
theorem w_3_47 : Cond.instanceMethod ⟨"HerbrandTables$TableSet", "addTablesWith", "(IZ)V"⟩ ∈ gW := gW_of (gin_3 (List.mem_of_getElem? (i := 47) rfl)) rfl
theorem w_3_48 : Cond.code ⟨"HerbrandTables$TableSet", "addTablesWith", "(IZ)V"⟩ prog_7_method_13_code 4 none ∈ gW := gW_of (gin_3 (List.mem_of_getElem? (i := 48) rfl)) rfl
theorem w_3_49 : Cond.methodLink "HerbrandTables$TableSet" 58 ⟨"HerbrandTables$TableSet", "wordWith", "(IIZ)J"⟩ ∈ gW := gW_of (gin_3 (List.mem_of_getElem? (i := 49) rfl)) rfl
theorem w_3_51 : Cond.instanceMethod ⟨"HerbrandTables$TableSet", "wordWith", "(IIZ)J"⟩ ∈ gW := gW_of (gin_3 (List.mem_of_getElem? (i := 51) rfl)) rfl
theorem w_3_52 : Cond.code ⟨"HerbrandTables$TableSet", "wordWith", "(IIZ)J"⟩ prog_7_method_14_code 7 (some .long) ∈ gW := gW_of (gin_3 (List.mem_of_getElem? (i := 52) rfl)) rfl
theorem w_3_53 : Cond.fieldLinkNest "HerbrandTables$TableSet" 62 "HerbrandTables" "TRUE_IN_WORD" "[J" "HerbrandTables" ∈ gNF := gNF_of (gin_3 (List.mem_of_getElem? (i := 53) rfl)) rfl
theorem w_3_55 : Cond.methodLink "HerbrandTablesLaw" 95 ⟨"HerbrandTablesLaw", "tables", "(LHerbrandTables;[J)I"⟩ ∈ gW := gW_of (gin_3 (List.mem_of_getElem? (i := 55) rfl)) rfl
theorem w_3_56 : Cond.static ⟨"HerbrandTablesLaw", "tables", "(LHerbrandTables;[J)I"⟩ ∈ gW := gW_of (gin_3 (List.mem_of_getElem? (i := 56) rfl)) rfl
theorem w_3_57 : Cond.codeWith ⟨"HerbrandTablesLaw", "tables", "(LHerbrandTables;[J)I"⟩ method_4_code 3 (some .int) [(0, 8, 11, 18)] ∈ gW := gW_of (gin_3 (List.mem_of_getElem? (i := 57) rfl)) rfl
theorem w_3_59 : Cond.methodLink "HerbrandTablesLaw" 15 ⟨"HerbrandTables", "tables", "()I"⟩ ∈ gW := gW_of (gin_3 (List.mem_of_getElem? (i := 59) rfl)) rfl
theorem w_3_60 : Cond.instanceMethod ⟨"HerbrandTables", "tables", "()I"⟩ ∈ gW := gW_of (gin_3 (List.mem_of_getElem? (i := 60) rfl)) rfl
theorem w_3_61 : Cond.selects "HerbrandTables" ⟨"HerbrandTables", "tables", "()I"⟩ ⟨"HerbrandTables", "tables", "()I"⟩ ∈ gW := gW_of (gin_3 (List.mem_of_getElem? (i := 61) rfl)) rfl
theorem w_3_62 : Cond.code ⟨"HerbrandTables", "tables", "()I"⟩ prog_1_method_12_code 1 (some .int) ∈ gW := gW_of (gin_3 (List.mem_of_getElem? (i := 62) rfl)) rfl
theorem w_3_63 : Cond.methodLink "HerbrandTables" 86 ⟨"HerbrandTables", "requireSentence", "()V"⟩ ∈ gW := gW_of (gin_3 (List.mem_of_getElem? (i := 63) rfl)) rfl
theorem w_3_65 : Cond.instanceMethod ⟨"HerbrandTables", "requireSentence", "()V"⟩ ∈ gW := gW_of (gin_3 (List.mem_of_getElem? (i := 65) rfl)) rfl
theorem w_3_66 : Cond.code ⟨"HerbrandTables", "requireSentence", "()V"⟩ prog_1_method_18_code 1 none ∈ gW := gW_of (gin_3 (List.mem_of_getElem? (i := 66) rfl)) rfl
theorem w_3_67 : Cond.classLink "HerbrandTables" 122 "java/lang/IllegalStateException" ∈ gW := gW_of (gin_3 (List.mem_of_getElem? (i := 67) rfl)) rfl
theorem w_3_82 : Cond.methodLink "HerbrandTables" 89 ⟨"HerbrandTables$Sentence", "tablesOf", "(I)LHerbrandTables$TableSet;"⟩ ∈ gW := gW_of (gin_3 (List.mem_of_getElem? (i := 82) rfl)) rfl
theorem w_3_83 : Cond.methodLink "HerbrandTables" 93 ⟨"HerbrandTables$TableSet", "size", "()I"⟩ ∈ gW := gW_of (gin_3 (List.mem_of_getElem? (i := 83) rfl)) rfl
theorem w_3_84 : Cond.methodLink "HerbrandTablesLaw" 98 ⟨"HerbrandTablesLaw", "least", "(LHerbrandTables;[J)I"⟩ ∈ gW := gW_of (gin_3 (List.mem_of_getElem? (i := 84) rfl)) rfl
theorem w_3_85 : Cond.static ⟨"HerbrandTablesLaw", "least", "(LHerbrandTables;[J)I"⟩ ∈ gW := gW_of (gin_3 (List.mem_of_getElem? (i := 85) rfl)) rfl
theorem w_3_86 : Cond.codeWith ⟨"HerbrandTablesLaw", "least", "(LHerbrandTables;[J)I"⟩ method_5_code 3 (some .int) [(0, 8, 11, 18), (0, 8, 14, 23)] ∈ gW := gW_of (gin_3 (List.mem_of_getElem? (i := 86) rfl)) rfl
theorem w_3_88 : Cond.methodLink "HerbrandTablesLaw" 20 ⟨"HerbrandTables", "least", "()I"⟩ ∈ gW := gW_of (gin_3 (List.mem_of_getElem? (i := 88) rfl)) rfl
theorem w_3_89 : Cond.instanceMethod ⟨"HerbrandTables", "least", "()I"⟩ ∈ gW := gW_of (gin_3 (List.mem_of_getElem? (i := 89) rfl)) rfl
theorem w_3_90 : Cond.selects "HerbrandTables" ⟨"HerbrandTables", "least", "()I"⟩ ⟨"HerbrandTables", "least", "()I"⟩ ∈ gW := gW_of (gin_3 (List.mem_of_getElem? (i := 90) rfl)) rfl
theorem w_3_91 : Cond.code ⟨"HerbrandTables", "least", "()I"⟩ prog_1_method_13_code 2 (some .int) ∈ gW := gW_of (gin_3 (List.mem_of_getElem? (i := 91) rfl)) rfl
theorem w_3_92 : Cond.methodLink "HerbrandTables" 98 ⟨"HerbrandTables", "someTables", "()LHerbrandTables$TableSet;"⟩ ∈ gW := gW_of (gin_3 (List.mem_of_getElem? (i := 92) rfl)) rfl
theorem w_3_94 : Cond.instanceMethod ⟨"HerbrandTables", "someTables", "()LHerbrandTables$TableSet;"⟩ ∈ gW := gW_of (gin_3 (List.mem_of_getElem? (i := 94) rfl)) rfl
theorem w_3_95 : Cond.code ⟨"HerbrandTables", "someTables", "()LHerbrandTables$TableSet;"⟩ prog_1_method_19_code 2 (some (.object "HerbrandTables$TableSet")) ∈ gW := gW_of (gin_3 (List.mem_of_getElem? (i := 95) rfl)) rfl
theorem w_3_96 : Cond.methodLink "HerbrandTables" 125 ⟨"HerbrandTables$TableSet", "isEmpty", "()Z"⟩ ∈ gW := gW_of (gin_3 (List.mem_of_getElem? (i := 96) rfl)) rfl
theorem w_3_97 : Cond.classLink "HerbrandTables" 129 "java/util/NoSuchElementException" ∈ gW := gW_of (gin_3 (List.mem_of_getElem? (i := 97) rfl)) rfl
theorem w_3_112 : Cond.methodLink "HerbrandTables" 102 ⟨"HerbrandTables$TableSet", "first", "()I"⟩ ∈ gW := gW_of (gin_3 (List.mem_of_getElem? (i := 112) rfl)) rfl
theorem w_3_113 : Cond.instanceMethod ⟨"HerbrandTables$TableSet", "first", "()I"⟩ ∈ gW := gW_of (gin_3 (List.mem_of_getElem? (i := 113) rfl)) rfl
theorem w_3_114 : Cond.selects "HerbrandTables$TableSet" ⟨"HerbrandTables$TableSet", "first", "()I"⟩ ⟨"HerbrandTables$TableSet", "first", "()I"⟩ ∈ gW := gW_of (gin_3 (List.mem_of_getElem? (i := 114) rfl)) rfl
theorem w_3_115 : Cond.code ⟨"HerbrandTables$TableSet", "first", "()I"⟩ prog_7_method_7_code 2 (some .int) ∈ gW := gW_of (gin_3 (List.mem_of_getElem? (i := 115) rfl)) rfl
theorem w_3_116 : Cond.methodLink "HerbrandTables$TableSet" 54 ⟨"HerbrandTables$TableSet", "has", "(I)Z"⟩ ∈ gW := gW_of (gin_3 (List.mem_of_getElem? (i := 116) rfl)) rfl
theorem w_3_118 : Cond.instanceMethod ⟨"HerbrandTables$TableSet", "has", "(I)Z"⟩ ∈ gW := gW_of (gin_3 (List.mem_of_getElem? (i := 118) rfl)) rfl
theorem w_3_119 : Cond.code ⟨"HerbrandTables$TableSet", "has", "(I)Z"⟩ prog_7_method_12_code 2 (some .boolean) ∈ gW := gW_of (gin_3 (List.mem_of_getElem? (i := 119) rfl)) rfl
theorem w_3_120 : Cond.methodLink "HerbrandTables" 105 ⟨"HerbrandTables$TableSet", "trueAtoms", "(I)I"⟩ ∈ gW := gW_of (gin_3 (List.mem_of_getElem? (i := 120) rfl)) rfl
theorem w_3_121 : Cond.instanceMethod ⟨"HerbrandTables$TableSet", "trueAtoms", "(I)I"⟩ ∈ gW := gW_of (gin_3 (List.mem_of_getElem? (i := 121) rfl)) rfl
theorem w_3_122 : Cond.selects "HerbrandTables$TableSet" ⟨"HerbrandTables$TableSet", "trueAtoms", "(I)I"⟩ ⟨"HerbrandTables$TableSet", "trueAtoms", "(I)I"⟩ ∈ gW := gW_of (gin_3 (List.mem_of_getElem? (i := 122) rfl)) rfl
theorem w_3_123 : Cond.code ⟨"HerbrandTables$TableSet", "trueAtoms", "(I)I"⟩ prog_7_method_10_code 4 (some .int) ∈ gW := gW_of (gin_3 (List.mem_of_getElem? (i := 123) rfl)) rfl
theorem w_3_124 : Cond.methodLink "HerbrandTablesLaw" 101 ⟨"HerbrandTablesLaw", "greatest", "(LHerbrandTables;[J)I"⟩ ∈ gW := gW_of (gin_3 (List.mem_of_getElem? (i := 124) rfl)) rfl
theorem w_3_125 : Cond.static ⟨"HerbrandTablesLaw", "greatest", "(LHerbrandTables;[J)I"⟩ ∈ gW := gW_of (gin_3 (List.mem_of_getElem? (i := 125) rfl)) rfl
theorem w_3_126 : Cond.codeWith ⟨"HerbrandTablesLaw", "greatest", "(LHerbrandTables;[J)I"⟩ method_6_code 3 (some .int) [(0, 8, 11, 18), (0, 8, 14, 23)] ∈ gW := gW_of (gin_3 (List.mem_of_getElem? (i := 126) rfl)) rfl
theorem w_3_127 : Cond.methodLink "HerbrandTablesLaw" 25 ⟨"HerbrandTables", "greatest", "()I"⟩ ∈ gW := gW_of (gin_3 (List.mem_of_getElem? (i := 127) rfl)) rfl
theorem w_3_128 : Cond.instanceMethod ⟨"HerbrandTables", "greatest", "()I"⟩ ∈ gW := gW_of (gin_3 (List.mem_of_getElem? (i := 128) rfl)) rfl
theorem w_3_129 : Cond.selects "HerbrandTables" ⟨"HerbrandTables", "greatest", "()I"⟩ ⟨"HerbrandTables", "greatest", "()I"⟩ ∈ gW := gW_of (gin_3 (List.mem_of_getElem? (i := 129) rfl)) rfl
theorem w_3_130 : Cond.code ⟨"HerbrandTables", "greatest", "()I"⟩ prog_1_method_14_code 2 (some .int) ∈ gW := gW_of (gin_3 (List.mem_of_getElem? (i := 130) rfl)) rfl
theorem w_3_131 : Cond.methodLink "HerbrandTables" 109 ⟨"HerbrandTables$TableSet", "last", "()I"⟩ ∈ gW := gW_of (gin_3 (List.mem_of_getElem? (i := 131) rfl)) rfl
theorem w_3_132 : Cond.instanceMethod ⟨"HerbrandTables$TableSet", "last", "()I"⟩ ∈ gW := gW_of (gin_3 (List.mem_of_getElem? (i := 132) rfl)) rfl
theorem w_3_133 : Cond.selects "HerbrandTables$TableSet" ⟨"HerbrandTables$TableSet", "last", "()I"⟩ ⟨"HerbrandTables$TableSet", "last", "()I"⟩ ∈ gW := gW_of (gin_3 (List.mem_of_getElem? (i := 133) rfl)) rfl
theorem w_3_134 : Cond.code ⟨"HerbrandTables$TableSet", "last", "()I"⟩ prog_7_method_8_code 2 (some .int) ∈ gW := gW_of (gin_3 (List.mem_of_getElem? (i := 134) rfl)) rfl
theorem w_3_135 : Cond.methodLink "HerbrandTablesLaw" 104 ⟨"HerbrandTablesLaw", "forced", "(LHerbrandTables;I[J)I"⟩ ∈ gW := gW_of (gin_3 (List.mem_of_getElem? (i := 135) rfl)) rfl
theorem w_3_136 : Cond.static ⟨"HerbrandTablesLaw", "forced", "(LHerbrandTables;I[J)I"⟩ ∈ gW := gW_of (gin_3 (List.mem_of_getElem? (i := 136) rfl)) rfl
theorem w_3_137 : Cond.codeWith ⟨"HerbrandTablesLaw", "forced", "(LHerbrandTables;I[J)I"⟩ method_7_code 4 (some .int) [(0, 9, 12, 18), (0, 9, 15, 32), (0, 9, 18, 23)] ∈ gW := gW_of (gin_3 (List.mem_of_getElem? (i := 137) rfl)) rfl
theorem w_3_139 : Cond.methodLink "HerbrandTablesLaw" 28 ⟨"HerbrandTables", "forced", "(I)I"⟩ ∈ gW := gW_of (gin_3 (List.mem_of_getElem? (i := 139) rfl)) rfl
theorem w_3_140 : Cond.instanceMethod ⟨"HerbrandTables", "forced", "(I)I"⟩ ∈ gW := gW_of (gin_3 (List.mem_of_getElem? (i := 140) rfl)) rfl
theorem w_3_141 : Cond.selects "HerbrandTables" ⟨"HerbrandTables", "forced", "(I)I"⟩ ⟨"HerbrandTables", "forced", "(I)I"⟩ ∈ gW := gW_of (gin_3 (List.mem_of_getElem? (i := 141) rfl)) rfl
theorem w_3_142 : Cond.code ⟨"HerbrandTables", "forced", "(I)I"⟩ prog_1_method_15_code 5 (some .int) ∈ gW := gW_of (gin_3 (List.mem_of_getElem? (i := 142) rfl)) rfl
theorem w_3_143 : Cond.classLink "HerbrandTables" 112 "java/lang/IndexOutOfBoundsException" ∈ gW := gW_of (gin_3 (List.mem_of_getElem? (i := 143) rfl)) rfl
theorem w_3_158 : Cond.methodLink "HerbrandTables" 115 ⟨"HerbrandTables$TableSet", "hasTableWith", "(IZ)Z"⟩ ∈ gW := gW_of (gin_3 (List.mem_of_getElem? (i := 158) rfl)) rfl
theorem w_3_159 : Cond.instanceMethod ⟨"HerbrandTables$TableSet", "hasTableWith", "(IZ)Z"⟩ ∈ gW := gW_of (gin_3 (List.mem_of_getElem? (i := 159) rfl)) rfl
theorem w_3_160 : Cond.selects "HerbrandTables$TableSet" ⟨"HerbrandTables$TableSet", "hasTableWith", "(IZ)Z"⟩ ⟨"HerbrandTables$TableSet", "hasTableWith", "(IZ)Z"⟩ ∈ gW := gW_of (gin_3 (List.mem_of_getElem? (i := 160) rfl)) rfl
theorem w_3_161 : Cond.code ⟨"HerbrandTables$TableSet", "hasTableWith", "(IZ)Z"⟩ prog_7_method_9_code 4 (some .boolean) ∈ gW := gW_of (gin_3 (List.mem_of_getElem? (i := 161) rfl)) rfl
theorem w_3_162 : Cond.methodLink "HerbrandTablesLaw" 108 ⟨"HerbrandTablesLaw", "without", "(LHerbrandTables;I[J)I"⟩ ∈ gW := gW_of (gin_3 (List.mem_of_getElem? (i := 162) rfl)) rfl
theorem w_3_163 : Cond.static ⟨"HerbrandTablesLaw", "without", "(LHerbrandTables;I[J)I"⟩ ∈ gW := gW_of (gin_3 (List.mem_of_getElem? (i := 163) rfl)) rfl
theorem w_3_164 : Cond.codeWith ⟨"HerbrandTablesLaw", "without", "(LHerbrandTables;I[J)I"⟩ method_8_code 4 (some .int) [(0, 16, 19, 18), (0, 16, 22, 32)] ∈ gW := gW_of (gin_3 (List.mem_of_getElem? (i := 164) rfl)) rfl
theorem w_3_165 : Cond.methodLink "HerbrandTablesLaw" 34 ⟨"HerbrandTables", "without", "(I)Z"⟩ ∈ gW := gW_of (gin_3 (List.mem_of_getElem? (i := 165) rfl)) rfl
theorem w_3_166 : Cond.instanceMethod ⟨"HerbrandTables", "without", "(I)Z"⟩ ∈ gW := gW_of (gin_3 (List.mem_of_getElem? (i := 166) rfl)) rfl
theorem w_3_167 : Cond.selects "HerbrandTables" ⟨"HerbrandTables", "without", "(I)Z"⟩ ⟨"HerbrandTables", "without", "(I)Z"⟩ ∈ gW := gW_of (gin_3 (List.mem_of_getElem? (i := 167) rfl)) rfl
theorem w_3_168 : Cond.code ⟨"HerbrandTables", "without", "(I)Z"⟩ prog_1_method_16_code 2 (some .boolean) ∈ gW := gW_of (gin_3 (List.mem_of_getElem? (i := 168) rfl)) rfl
theorem w_3_169 : Cond.methodLink "HerbrandTablesLaw" 111 ⟨"HerbrandTablesLaw", "core", "(LHerbrandTables;I[J)I"⟩ ∈ gW := gW_of (gin_3 (List.mem_of_getElem? (i := 169) rfl)) rfl
theorem w_3_170 : Cond.static ⟨"HerbrandTablesLaw", "core", "(LHerbrandTables;I[J)I"⟩ ∈ gW := gW_of (gin_3 (List.mem_of_getElem? (i := 170) rfl)) rfl
theorem w_3_171 : Cond.codeWith ⟨"HerbrandTablesLaw", "core", "(LHerbrandTables;I[J)I"⟩ method_9_code 4 (some .int) [(0, 16, 19, 18), (0, 16, 22, 32)] ∈ gW := gW_of (gin_3 (List.mem_of_getElem? (i := 171) rfl)) rfl
theorem w_3_172 : Cond.methodLink "HerbrandTablesLaw" 38 ⟨"HerbrandTables", "core", "(I)Z"⟩ ∈ gW := gW_of (gin_3 (List.mem_of_getElem? (i := 172) rfl)) rfl
theorem w_3_173 : Cond.instanceMethod ⟨"HerbrandTables", "core", "(I)Z"⟩ ∈ gW := gW_of (gin_3 (List.mem_of_getElem? (i := 173) rfl)) rfl
theorem w_3_174 : Cond.selects "HerbrandTables" ⟨"HerbrandTables", "core", "(I)Z"⟩ ⟨"HerbrandTables", "core", "(I)Z"⟩ ∈ gW := gW_of (gin_3 (List.mem_of_getElem? (i := 174) rfl)) rfl
theorem w_3_175 : Cond.code ⟨"HerbrandTables", "core", "(I)Z"⟩ prog_1_method_17_code 2 (some .boolean) ∈ gW := gW_of (gin_3 (List.mem_of_getElem? (i := 175) rfl)) rfl
theorem w_3_176 : Cond.methodLink "HerbrandTables" 119 ⟨"HerbrandTables$Sentence", "canHoldWithoutAnyOne", "(I)Z"⟩ ∈ gW := gW_of (gin_3 (List.mem_of_getElem? (i := 176) rfl)) rfl
theorem w_3_177 : Cond.instanceMethod ⟨"HerbrandTables$Sentence", "canHoldWithoutAnyOne", "(I)Z"⟩ ∈ gW := gW_of (gin_3 (List.mem_of_getElem? (i := 177) rfl)) rfl
theorem w_3_178 : Cond.selects "HerbrandTables$Sentence" ⟨"HerbrandTables$Sentence", "canHoldWithoutAnyOne", "(I)Z"⟩ ⟨"HerbrandTables$Sentence", "canHoldWithoutAnyOne", "(I)Z"⟩ ∈ gW := gW_of (gin_3 (List.mem_of_getElem? (i := 178) rfl)) rfl
theorem w_3_179 : Cond.code ⟨"HerbrandTables$Sentence", "canHoldWithoutAnyOne", "(I)Z"⟩ prog_6_method_8_code 3 (some .boolean) ∈ gW := gW_of (gin_3 (List.mem_of_getElem? (i := 179) rfl)) rfl
theorem w_3_180 : Cond.methodLink "HerbrandTables$Sentence" 102 ⟨"HerbrandTables$Sentence", "canHold", "(I)Z"⟩ ∈ gW := gW_of (gin_3 (List.mem_of_getElem? (i := 180) rfl)) rfl
theorem w_3_181 : Cond.classLink "HerbrandTablesLaw" 42 "HerbrandTablesModel" ∈ gW := gW_of (gin_3 (List.mem_of_getElem? (i := 181) rfl)) rfl
theorem w_3_182 : Cond.instantiable "HerbrandTablesModel" 25 ∈ gW := gW_of (gin_3 (List.mem_of_getElem? (i := 182) rfl)) rfl
theorem w_3_183 : Cond.methodLink "HerbrandTablesLaw" 44 ⟨"HerbrandTablesModel", "<init>", "()V"⟩ ∈ gW := gW_of (gin_3 (List.mem_of_getElem? (i := 183) rfl)) rfl
theorem w_3_184 : Cond.instanceMethod ⟨"HerbrandTablesModel", "<init>", "()V"⟩ ∈ gW := gW_of (gin_3 (List.mem_of_getElem? (i := 184) rfl)) rfl
theorem w_3_185 : Cond.code ⟨"HerbrandTablesModel", "<init>", "()V"⟩ prog_11_method_1_code 1 none ∈ gW := gW_of (gin_3 (List.mem_of_getElem? (i := 185) rfl)) rfl
theorem w_3_186 : Cond.methodLink "HerbrandTablesModel" 1 ⟨"java/lang/Object", "<init>", "()V"⟩ ∈ gW := gW_of (gin_3 (List.mem_of_getElem? (i := 186) rfl)) rfl
theorem w_3_187 : Cond.fieldLink "HerbrandTablesModel" 63 "HerbrandTablesModel" "code" "I" ∈ gW := gW_of (gin_3 (List.mem_of_getElem? (i := 187) rfl)) rfl
theorem w_3_188 : Cond.fieldLink "HerbrandTablesModel" 68 "HerbrandTablesModel" "typed" "I" ∈ gW := gW_of (gin_3 (List.mem_of_getElem? (i := 188) rfl)) rfl
theorem w_3_189 : Cond.fieldLink "HerbrandTablesModel" 7 "HerbrandTablesModel" "text" "[I" ∈ gW := gW_of (gin_3 (List.mem_of_getElem? (i := 189) rfl)) rfl
theorem w_3_190 : Cond.fieldLink "HerbrandTablesModel" 13 "HerbrandTablesModel" "told" "I" ∈ gW := gW_of (gin_3 (List.mem_of_getElem? (i := 190) rfl)) rfl
theorem w_3_191 : Cond.fieldLink "HerbrandTablesModel" 91 "HerbrandTablesModel" "newClauses" "I" ∈ gW := gW_of (gin_3 (List.mem_of_getElem? (i := 191) rfl)) rfl
theorem w_3_192 : Cond.fieldLink "HerbrandTablesModel" 17 "HerbrandTablesModel" "newSizes" "[I" ∈ gW := gW_of (gin_3 (List.mem_of_getElem? (i := 192) rfl)) rfl
theorem w_3_193 : Cond.fieldLink "HerbrandTablesModel" 20 "HerbrandTablesModel" "newPredicates" "[I" ∈ gW := gW_of (gin_3 (List.mem_of_getElem? (i := 193) rfl)) rfl
theorem w_3_194 : Cond.fieldLink "HerbrandTablesModel" 23 "HerbrandTablesModel" "newTurned" "[Z" ∈ gW := gW_of (gin_3 (List.mem_of_getElem? (i := 194) rfl)) rfl
theorem w_3_195 : Cond.fieldLink "HerbrandTablesModel" 27 "HerbrandTablesModel" "newOnes" "[I" ∈ gW := gW_of (gin_3 (List.mem_of_getElem? (i := 195) rfl)) rfl
theorem w_3_196 : Cond.fieldLink "HerbrandTablesModel" 30 "HerbrandTablesModel" "newTwos" "[I" ∈ gW := gW_of (gin_3 (List.mem_of_getElem? (i := 196) rfl)) rfl
theorem w_3_197 : Cond.fieldLink "HerbrandTablesModel" 33 "HerbrandTablesModel" "newWidths" "[I" ∈ gW := gW_of (gin_3 (List.mem_of_getElem? (i := 197) rfl)) rfl
theorem w_3_198 : Cond.fieldLink "HerbrandTablesModel" 84 "HerbrandTablesModel" "newThings" "I" ∈ gW := gW_of (gin_3 (List.mem_of_getElem? (i := 198) rfl)) rfl
theorem w_3_199 : Cond.fieldLink "HerbrandTablesModel" 101 "HerbrandTablesModel" "there" "Z" ∈ gW := gW_of (gin_3 (List.mem_of_getElem? (i := 199) rfl)) rfl
theorem w_3_200 : Cond.fieldLink "HerbrandTablesModel" 105 "HerbrandTablesModel" "clauses" "I" ∈ gW := gW_of (gin_3 (List.mem_of_getElem? (i := 200) rfl)) rfl
theorem w_3_201 : Cond.fieldLink "HerbrandTablesModel" 36 "HerbrandTablesModel" "sizes" "[I" ∈ gW := gW_of (gin_3 (List.mem_of_getElem? (i := 201) rfl)) rfl
theorem w_3_202 : Cond.fieldLink "HerbrandTablesModel" 39 "HerbrandTablesModel" "predicates" "[I" ∈ gW := gW_of (gin_3 (List.mem_of_getElem? (i := 202) rfl)) rfl
theorem w_3_203 : Cond.fieldLink "HerbrandTablesModel" 42 "HerbrandTablesModel" "turned" "[Z" ∈ gW := gW_of (gin_3 (List.mem_of_getElem? (i := 203) rfl)) rfl
theorem w_3_204 : Cond.fieldLink "HerbrandTablesModel" 45 "HerbrandTablesModel" "ones" "[I" ∈ gW := gW_of (gin_3 (List.mem_of_getElem? (i := 204) rfl)) rfl
theorem w_3_205 : Cond.fieldLink "HerbrandTablesModel" 48 "HerbrandTablesModel" "twos" "[I" ∈ gW := gW_of (gin_3 (List.mem_of_getElem? (i := 205) rfl)) rfl
theorem w_3_206 : Cond.fieldLink "HerbrandTablesModel" 51 "HerbrandTablesModel" "widths" "[I" ∈ gW := gW_of (gin_3 (List.mem_of_getElem? (i := 206) rfl)) rfl
theorem w_3_207 : Cond.fieldLink "HerbrandTablesModel" 98 "HerbrandTablesModel" "things" "I" ∈ gW := gW_of (gin_3 (List.mem_of_getElem? (i := 207) rfl)) rfl
theorem w_3_208 : Cond.fieldLink "HerbrandTablesModel" 108 "HerbrandTablesModel" "atoms" "I" ∈ gW := gW_of (gin_3 (List.mem_of_getElem? (i := 208) rfl)) rfl
theorem w_3_209 : Cond.fieldLink "HerbrandTablesModel" 54 "HerbrandTablesModel" "sets" "[I" ∈ gW := gW_of (gin_3 (List.mem_of_getElem? (i := 209) rfl)) rfl
theorem w_3_210 : Cond.fieldLink "HerbrandTablesModel" 57 "HerbrandTablesModel" "many" "[I" ∈ gW := gW_of (gin_3 (List.mem_of_getElem? (i := 210) rfl)) rfl
theorem w_3_211 : Cond.fieldLink "HerbrandTablesModel" 60 "HerbrandTablesModel" "holding" "[I" ∈ gW := gW_of (gin_3 (List.mem_of_getElem? (i := 211) rfl)) rfl
theorem w_3_212 : Cond.lays "HerbrandTablesModel" "HerbrandTablesModel" "code" "I" ∈ gW := gW_of (gin_3 (List.mem_of_getElem? (i := 212) rfl)) rfl
theorem w_3_214 : Cond.lays "HerbrandTablesModel" "HerbrandTablesModel" "typed" "I" ∈ gW := gW_of (gin_3 (List.mem_of_getElem? (i := 214) rfl)) rfl
theorem w_3_216 : Cond.laysFinal "HerbrandTablesModel" "HerbrandTablesModel" "text" "[I" ∈ gW := gW_of (gin_3 (List.mem_of_getElem? (i := 216) rfl)) rfl
theorem w_3_218 : Cond.lays "HerbrandTablesModel" "HerbrandTablesModel" "told" "I" ∈ gW := gW_of (gin_3 (List.mem_of_getElem? (i := 218) rfl)) rfl
theorem w_3_220 : Cond.lays "HerbrandTablesModel" "HerbrandTablesModel" "newClauses" "I" ∈ gW := gW_of (gin_3 (List.mem_of_getElem? (i := 220) rfl)) rfl
theorem w_3_222 : Cond.laysFinal "HerbrandTablesModel" "HerbrandTablesModel" "newSizes" "[I" ∈ gW := gW_of (gin_3 (List.mem_of_getElem? (i := 222) rfl)) rfl
theorem w_3_224 : Cond.laysFinal "HerbrandTablesModel" "HerbrandTablesModel" "newPredicates" "[I" ∈ gW := gW_of (gin_3 (List.mem_of_getElem? (i := 224) rfl)) rfl
theorem w_3_226 : Cond.laysFinal "HerbrandTablesModel" "HerbrandTablesModel" "newTurned" "[Z" ∈ gW := gW_of (gin_3 (List.mem_of_getElem? (i := 226) rfl)) rfl
theorem w_3_228 : Cond.laysFinal "HerbrandTablesModel" "HerbrandTablesModel" "newOnes" "[I" ∈ gW := gW_of (gin_3 (List.mem_of_getElem? (i := 228) rfl)) rfl
theorem w_3_230 : Cond.laysFinal "HerbrandTablesModel" "HerbrandTablesModel" "newTwos" "[I" ∈ gW := gW_of (gin_3 (List.mem_of_getElem? (i := 230) rfl)) rfl
theorem w_3_232 : Cond.laysFinal "HerbrandTablesModel" "HerbrandTablesModel" "newWidths" "[I" ∈ gW := gW_of (gin_3 (List.mem_of_getElem? (i := 232) rfl)) rfl
theorem w_3_234 : Cond.lays "HerbrandTablesModel" "HerbrandTablesModel" "newThings" "I" ∈ gW := gW_of (gin_3 (List.mem_of_getElem? (i := 234) rfl)) rfl
theorem w_3_236 : Cond.lays "HerbrandTablesModel" "HerbrandTablesModel" "there" "Z" ∈ gW := gW_of (gin_3 (List.mem_of_getElem? (i := 236) rfl)) rfl
theorem w_3_238 : Cond.lays "HerbrandTablesModel" "HerbrandTablesModel" "clauses" "I" ∈ gW := gW_of (gin_3 (List.mem_of_getElem? (i := 238) rfl)) rfl
theorem w_4_0 : Cond.laysFinal "HerbrandTablesModel" "HerbrandTablesModel" "sizes" "[I" ∈ gW := gW_of (gin_4 (List.mem_of_getElem? (i := 0) rfl)) rfl
theorem w_4_2 : Cond.laysFinal "HerbrandTablesModel" "HerbrandTablesModel" "predicates" "[I" ∈ gW := gW_of (gin_4 (List.mem_of_getElem? (i := 2) rfl)) rfl
theorem w_4_4 : Cond.laysFinal "HerbrandTablesModel" "HerbrandTablesModel" "turned" "[Z" ∈ gW := gW_of (gin_4 (List.mem_of_getElem? (i := 4) rfl)) rfl
theorem w_4_6 : Cond.laysFinal "HerbrandTablesModel" "HerbrandTablesModel" "ones" "[I" ∈ gW := gW_of (gin_4 (List.mem_of_getElem? (i := 6) rfl)) rfl
theorem w_4_8 : Cond.laysFinal "HerbrandTablesModel" "HerbrandTablesModel" "twos" "[I" ∈ gW := gW_of (gin_4 (List.mem_of_getElem? (i := 8) rfl)) rfl
theorem w_4_10 : Cond.laysFinal "HerbrandTablesModel" "HerbrandTablesModel" "widths" "[I" ∈ gW := gW_of (gin_4 (List.mem_of_getElem? (i := 10) rfl)) rfl
theorem w_4_12 : Cond.lays "HerbrandTablesModel" "HerbrandTablesModel" "things" "I" ∈ gW := gW_of (gin_4 (List.mem_of_getElem? (i := 12) rfl)) rfl
theorem w_4_14 : Cond.lays "HerbrandTablesModel" "HerbrandTablesModel" "atoms" "I" ∈ gW := gW_of (gin_4 (List.mem_of_getElem? (i := 14) rfl)) rfl
theorem w_4_16 : Cond.laysFinal "HerbrandTablesModel" "HerbrandTablesModel" "sets" "[I" ∈ gW := gW_of (gin_4 (List.mem_of_getElem? (i := 16) rfl)) rfl
theorem w_4_18 : Cond.laysFinal "HerbrandTablesModel" "HerbrandTablesModel" "many" "[I" ∈ gW := gW_of (gin_4 (List.mem_of_getElem? (i := 18) rfl)) rfl
theorem w_4_20 : Cond.laysFinal "HerbrandTablesModel" "HerbrandTablesModel" "holding" "[I" ∈ gW := gW_of (gin_4 (List.mem_of_getElem? (i := 20) rfl)) rfl
theorem w_4_23 : Cond.arrayClass .boolean ∈ gW := gW_of (gin_4 (List.mem_of_getElem? (i := 23) rfl)) rfl
theorem w_4_24 : Cond.methodLink "HerbrandTablesLaw" 62 ⟨"HerbrandTablesModel", "thrown", "()I"⟩ ∈ gW := gW_of (gin_4 (List.mem_of_getElem? (i := 24) rfl)) rfl
theorem w_4_25 : Cond.instanceMethod ⟨"HerbrandTablesModel", "thrown", "()I"⟩ ∈ gW := gW_of (gin_4 (List.mem_of_getElem? (i := 25) rfl)) rfl
theorem w_4_26 : Cond.selects "HerbrandTablesModel" ⟨"HerbrandTablesModel", "thrown", "()I"⟩ ⟨"HerbrandTablesModel", "thrown", "()I"⟩ ∈ gW := gW_of (gin_4 (List.mem_of_getElem? (i := 26) rfl)) rfl
theorem w_4_27 : Cond.code ⟨"HerbrandTablesModel", "thrown", "()I"⟩ prog_11_method_2_code 1 (some .int) ∈ gW := gW_of (gin_4 (List.mem_of_getElem? (i := 27) rfl)) rfl
theorem w_4_28 : Cond.methodLink "HerbrandTablesLaw" 51 ⟨"HerbrandTablesModel", "type", "(J)Z"⟩ ∈ gW := gW_of (gin_4 (List.mem_of_getElem? (i := 28) rfl)) rfl
theorem w_4_29 : Cond.instanceMethod ⟨"HerbrandTablesModel", "type", "(J)Z"⟩ ∈ gW := gW_of (gin_4 (List.mem_of_getElem? (i := 29) rfl)) rfl
theorem w_4_30 : Cond.selects "HerbrandTablesModel" ⟨"HerbrandTablesModel", "type", "(J)Z"⟩ ⟨"HerbrandTablesModel", "type", "(J)Z"⟩ ∈ gW := gW_of (gin_4 (List.mem_of_getElem? (i := 30) rfl)) rfl
theorem w_4_31 : Cond.code ⟨"HerbrandTablesModel", "type", "(J)Z"⟩ prog_11_method_3_code 6 (some .boolean) ∈ gW := gW_of (gin_4 (List.mem_of_getElem? (i := 31) rfl)) rfl
theorem w_4_32 : Cond.constantLong "HerbrandTablesModel" 66 255 ∈ gW := gW_of (gin_4 (List.mem_of_getElem? (i := 32) rfl)) rfl
theorem w_4_33 : Cond.methodLink "HerbrandTablesLaw" 55 ⟨"HerbrandTablesModel", "erase", "()I"⟩ ∈ gW := gW_of (gin_4 (List.mem_of_getElem? (i := 33) rfl)) rfl
theorem w_4_34 : Cond.instanceMethod ⟨"HerbrandTablesModel", "erase", "()I"⟩ ∈ gW := gW_of (gin_4 (List.mem_of_getElem? (i := 34) rfl)) rfl
theorem w_4_35 : Cond.selects "HerbrandTablesModel" ⟨"HerbrandTablesModel", "erase", "()I"⟩ ⟨"HerbrandTablesModel", "erase", "()I"⟩ ∈ gW := gW_of (gin_4 (List.mem_of_getElem? (i := 35) rfl)) rfl
theorem w_4_36 : Cond.code ⟨"HerbrandTablesModel", "erase", "()I"⟩ prog_11_method_4_code 2 (some .int) ∈ gW := gW_of (gin_4 (List.mem_of_getElem? (i := 36) rfl)) rfl
theorem w_4_37 : Cond.methodLink "HerbrandTablesLaw" 61 ⟨"HerbrandTablesModel", "read", "()I"⟩ ∈ gW := gW_of (gin_4 (List.mem_of_getElem? (i := 37) rfl)) rfl
theorem w_4_38 : Cond.instanceMethod ⟨"HerbrandTablesModel", "read", "()I"⟩ ∈ gW := gW_of (gin_4 (List.mem_of_getElem? (i := 38) rfl)) rfl
theorem w_4_39 : Cond.selects "HerbrandTablesModel" ⟨"HerbrandTablesModel", "read", "()I"⟩ ⟨"HerbrandTablesModel", "read", "()I"⟩ ∈ gW := gW_of (gin_4 (List.mem_of_getElem? (i := 39) rfl)) rfl
theorem w_4_40 : Cond.code ⟨"HerbrandTablesModel", "read", "()I"⟩ prog_11_method_21_code 2 (some .int) ∈ gW := gW_of (gin_4 (List.mem_of_getElem? (i := 40) rfl)) rfl
theorem w_4_41 : Cond.methodLink "HerbrandTablesModel" 132 ⟨"HerbrandTablesModel", "readText", "()I"⟩ ∈ gW := gW_of (gin_4 (List.mem_of_getElem? (i := 41) rfl)) rfl
theorem w_4_43 : Cond.instanceMethod ⟨"HerbrandTablesModel", "readText", "()I"⟩ ∈ gW := gW_of (gin_4 (List.mem_of_getElem? (i := 43) rfl)) rfl
theorem w_4_44 : Cond.code ⟨"HerbrandTablesModel", "readText", "()I"⟩ prog_11_method_11_code 6 (some .int) ∈ gW := gW_of (gin_4 (List.mem_of_getElem? (i := 44) rfl)) rfl
theorem w_4_45 : Cond.methodLink "HerbrandTablesModel" 94 ⟨"HerbrandTablesModel", "readLiteral", "(II)I"⟩ ∈ gW := gW_of (gin_4 (List.mem_of_getElem? (i := 45) rfl)) rfl
theorem w_4_47 : Cond.instanceMethod ⟨"HerbrandTablesModel", "readLiteral", "(II)I"⟩ ∈ gW := gW_of (gin_4 (List.mem_of_getElem? (i := 47) rfl)) rfl
theorem w_4_48 : Cond.code ⟨"HerbrandTablesModel", "readLiteral", "(II)I"⟩ prog_11_method_10_code 8 (some .int) ∈ gW := gW_of (gin_4 (List.mem_of_getElem? (i := 48) rfl)) rfl
theorem w_4_49 : Cond.methodLink "HerbrandTablesModel" 75 ⟨"HerbrandTablesModel", "charAt", "(I)I"⟩ ∈ gW := gW_of (gin_4 (List.mem_of_getElem? (i := 49) rfl)) rfl
theorem w_4_51 : Cond.instanceMethod ⟨"HerbrandTablesModel", "charAt", "(I)I"⟩ ∈ gW := gW_of (gin_4 (List.mem_of_getElem? (i := 51) rfl)) rfl
theorem w_4_52 : Cond.code ⟨"HerbrandTablesModel", "charAt", "(I)I"⟩ prog_11_method_5_code 2 (some .int) ∈ gW := gW_of (gin_4 (List.mem_of_getElem? (i := 52) rfl)) rfl
theorem w_4_53 : Cond.methodLink "HerbrandTablesModel" 78 ⟨"HerbrandTablesModel", "predicateOf", "(I)I"⟩ ∈ gW := gW_of (gin_4 (List.mem_of_getElem? (i := 53) rfl)) rfl
theorem w_4_54 : Cond.static ⟨"HerbrandTablesModel", "predicateOf", "(I)I"⟩ ∈ gW := gW_of (gin_4 (List.mem_of_getElem? (i := 54) rfl)) rfl
theorem w_4_55 : Cond.code ⟨"HerbrandTablesModel", "predicateOf", "(I)I"⟩ prog_11_method_9_code 1 (some .int) ∈ gW := gW_of (gin_4 (List.mem_of_getElem? (i := 55) rfl)) rfl
theorem w_4_56 : Cond.methodLink "HerbrandTablesModel" 81 ⟨"HerbrandTablesModel", "argument", "(I)I"⟩ ∈ gW := gW_of (gin_4 (List.mem_of_getElem? (i := 56) rfl)) rfl
theorem w_4_57 : Cond.static ⟨"HerbrandTablesModel", "argument", "(I)I"⟩ ∈ gW := gW_of (gin_4 (List.mem_of_getElem? (i := 57) rfl)) rfl
theorem w_4_58 : Cond.code ⟨"HerbrandTablesModel", "argument", "(I)I"⟩ prog_11_method_8_code 1 (some .int) ∈ gW := gW_of (gin_4 (List.mem_of_getElem? (i := 58) rfl)) rfl
theorem w_4_59 : Cond.methodLink "HerbrandTablesModel" 87 ⟨"HerbrandTablesModel", "atomsOf", "([II)I"⟩ ∈ gW := gW_of (gin_4 (List.mem_of_getElem? (i := 59) rfl)) rfl
theorem w_4_60 : Cond.static ⟨"HerbrandTablesModel", "atomsOf", "([II)I"⟩ ∈ gW := gW_of (gin_4 (List.mem_of_getElem? (i := 60) rfl)) rfl
theorem w_4_61 : Cond.code ⟨"HerbrandTablesModel", "atomsOf", "([II)I"⟩ prog_11_method_7_code 5 (some .int) ∈ gW := gW_of (gin_4 (List.mem_of_getElem? (i := 61) rfl)) rfl
theorem w_4_62 : Cond.methodLink "HerbrandTablesModel" 71 ⟨"HerbrandTablesModel", "bits", "(I)I"⟩ ∈ gW := gW_of (gin_4 (List.mem_of_getElem? (i := 62) rfl)) rfl
theorem w_4_63 : Cond.static ⟨"HerbrandTablesModel", "bits", "(I)I"⟩ ∈ gW := gW_of (gin_4 (List.mem_of_getElem? (i := 63) rfl)) rfl
theorem w_4_64 : Cond.code ⟨"HerbrandTablesModel", "bits", "(I)I"⟩ prog_11_method_6_code 3 (some .int) ∈ gW := gW_of (gin_4 (List.mem_of_getElem? (i := 64) rfl)) rfl
theorem w_4_65 : Cond.methodLink "HerbrandTablesModel" 136 ⟨"HerbrandTablesModel", "take", "()V"⟩ ∈ gW := gW_of (gin_4 (List.mem_of_getElem? (i := 65) rfl)) rfl
theorem w_4_67 : Cond.instanceMethod ⟨"HerbrandTablesModel", "take", "()V"⟩ ∈ gW := gW_of (gin_4 (List.mem_of_getElem? (i := 67) rfl)) rfl
theorem w_4_68 : Cond.code ⟨"HerbrandTablesModel", "take", "()V"⟩ prog_11_method_14_code 2 none ∈ gW := gW_of (gin_4 (List.mem_of_getElem? (i := 68) rfl)) rfl
theorem w_4_69 : Cond.methodLink "HerbrandTablesModel" 139 ⟨"HerbrandTablesModel", "makeInstances", "(I)V"⟩ ∈ gW := gW_of (gin_4 (List.mem_of_getElem? (i := 69) rfl)) rfl
theorem w_4_71 : Cond.instanceMethod ⟨"HerbrandTablesModel", "makeInstances", "(I)V"⟩ ∈ gW := gW_of (gin_4 (List.mem_of_getElem? (i := 71) rfl)) rfl
theorem w_4_72 : Cond.code ⟨"HerbrandTablesModel", "makeInstances", "(I)V"⟩ prog_11_method_18_code 6 none ∈ gW := gW_of (gin_4 (List.mem_of_getElem? (i := 72) rfl)) rfl
theorem w_4_73 : Cond.methodLink "HerbrandTablesModel" 118 ⟨"HerbrandTablesModel", "isThing", "(I)Z"⟩ ∈ gW := gW_of (gin_4 (List.mem_of_getElem? (i := 73) rfl)) rfl
theorem w_4_75 : Cond.instanceMethod ⟨"HerbrandTablesModel", "isThing", "(I)Z"⟩ ∈ gW := gW_of (gin_4 (List.mem_of_getElem? (i := 75) rfl)) rfl
theorem w_4_76 : Cond.code ⟨"HerbrandTablesModel", "isThing", "(I)Z"⟩ prog_11_method_12_code 2 (some .boolean) ∈ gW := gW_of (gin_4 (List.mem_of_getElem? (i := 76) rfl)) rfl
theorem w_4_77 : Cond.methodLink "HerbrandTablesModel" 122 ⟨"HerbrandTablesModel", "instance", "(II)I"⟩ ∈ gW := gW_of (gin_4 (List.mem_of_getElem? (i := 77) rfl)) rfl
theorem w_4_79 : Cond.instanceMethod ⟨"HerbrandTablesModel", "instance", "(II)I"⟩ ∈ gW := gW_of (gin_4 (List.mem_of_getElem? (i := 79) rfl)) rfl
theorem w_4_80 : Cond.code ⟨"HerbrandTablesModel", "instance", "(II)I"⟩ prog_11_method_16_code 10 (some .int) ∈ gW := gW_of (gin_4 (List.mem_of_getElem? (i := 80) rfl)) rfl
theorem w_4_81 : Cond.methodLink "HerbrandTablesModel" 111 ⟨"HerbrandTablesModel", "valueOf", "(II)I"⟩ ∈ gW := gW_of (gin_4 (List.mem_of_getElem? (i := 81) rfl)) rfl
theorem w_4_82 : Cond.static ⟨"HerbrandTablesModel", "valueOf", "(II)I"⟩ ∈ gW := gW_of (gin_4 (List.mem_of_getElem? (i := 82) rfl)) rfl
theorem w_4_83 : Cond.code ⟨"HerbrandTablesModel", "valueOf", "(II)I"⟩ prog_11_method_15_code 2 (some .int) ∈ gW := gW_of (gin_4 (List.mem_of_getElem? (i := 83) rfl)) rfl
theorem w_4_84 : Cond.methodLink "HerbrandTablesModel" 114 ⟨"HerbrandTablesModel", "atomOf", "(III)I"⟩ ∈ gW := gW_of (gin_4 (List.mem_of_getElem? (i := 84) rfl)) rfl
theorem w_4_86 : Cond.instanceMethod ⟨"HerbrandTablesModel", "atomOf", "(III)I"⟩ ∈ gW := gW_of (gin_4 (List.mem_of_getElem? (i := 86) rfl)) rfl
theorem w_4_87 : Cond.code ⟨"HerbrandTablesModel", "atomOf", "(III)I"⟩ prog_11_method_13_code 8 (some .int) ∈ gW := gW_of (gin_4 (List.mem_of_getElem? (i := 87) rfl)) rfl
theorem w_4_88 : Cond.methodLink "HerbrandTablesModel" 125 ⟨"HerbrandTablesModel", "has", "(II)Z"⟩ ∈ gW := gW_of (gin_4 (List.mem_of_getElem? (i := 88) rfl)) rfl
theorem w_4_90 : Cond.instanceMethod ⟨"HerbrandTablesModel", "has", "(II)Z"⟩ ∈ gW := gW_of (gin_4 (List.mem_of_getElem? (i := 90) rfl)) rfl
theorem w_4_91 : Cond.code ⟨"HerbrandTablesModel", "has", "(II)Z"⟩ prog_11_method_17_code 5 (some .boolean) ∈ gW := gW_of (gin_4 (List.mem_of_getElem? (i := 91) rfl)) rfl
theorem w_4_92 : Cond.methodLink "HerbrandTablesModel" 143 ⟨"HerbrandTablesModel", "tryTables", "(I)V"⟩ ∈ gW := gW_of (gin_4 (List.mem_of_getElem? (i := 92) rfl)) rfl
theorem w_4_94 : Cond.instanceMethod ⟨"HerbrandTablesModel", "tryTables", "(I)V"⟩ ∈ gW := gW_of (gin_4 (List.mem_of_getElem? (i := 94) rfl)) rfl
theorem w_4_95 : Cond.code ⟨"HerbrandTablesModel", "tryTables", "(I)V"⟩ prog_11_method_20_code 5 none ∈ gW := gW_of (gin_4 (List.mem_of_getElem? (i := 95) rfl)) rfl
theorem w_4_96 : Cond.methodLink "HerbrandTablesModel" 129 ⟨"HerbrandTablesModel", "isRight", "(II)Z"⟩ ∈ gW := gW_of (gin_4 (List.mem_of_getElem? (i := 96) rfl)) rfl
theorem w_4_97 : Cond.static ⟨"HerbrandTablesModel", "isRight", "(II)Z"⟩ ∈ gW := gW_of (gin_4 (List.mem_of_getElem? (i := 97) rfl)) rfl
theorem w_4_98 : Cond.code ⟨"HerbrandTablesModel", "isRight", "(II)Z"⟩ prog_11_method_19_code 2 (some .boolean) ∈ gW := gW_of (gin_4 (List.mem_of_getElem? (i := 98) rfl)) rfl
theorem w_4_99 : Cond.methodLink "HerbrandTablesModel" 146 ⟨"HerbrandTablesModel", "allInstances", "()I"⟩ ∈ gW := gW_of (gin_4 (List.mem_of_getElem? (i := 99) rfl)) rfl
theorem w_4_101 : Cond.instanceMethod ⟨"HerbrandTablesModel", "allInstances", "()I"⟩ ∈ gW := gW_of (gin_4 (List.mem_of_getElem? (i := 101) rfl)) rfl
theorem w_4_102 : Cond.code ⟨"HerbrandTablesModel", "allInstances", "()I"⟩ prog_11_method_26_code 6 (some .int) ∈ gW := gW_of (gin_4 (List.mem_of_getElem? (i := 102) rfl)) rfl
theorem w_4_103 : Cond.methodLink "HerbrandTablesLaw" 68 ⟨"HerbrandTablesModel", "fault", "()I"⟩ ∈ gW := gW_of (gin_4 (List.mem_of_getElem? (i := 103) rfl)) rfl
theorem w_4_104 : Cond.instanceMethod ⟨"HerbrandTablesModel", "fault", "()I"⟩ ∈ gW := gW_of (gin_4 (List.mem_of_getElem? (i := 104) rfl)) rfl
theorem w_4_105 : Cond.selects "HerbrandTablesModel" ⟨"HerbrandTablesModel", "fault", "()I"⟩ ⟨"HerbrandTablesModel", "fault", "()I"⟩ ∈ gW := gW_of (gin_4 (List.mem_of_getElem? (i := 105) rfl)) rfl
theorem w_4_106 : Cond.code ⟨"HerbrandTablesModel", "fault", "()I"⟩ prog_11_method_22_code 1 (some .int) ∈ gW := gW_of (gin_4 (List.mem_of_getElem? (i := 106) rfl)) rfl
theorem w_4_107 : Cond.methodLink "HerbrandTablesLaw" 72 ⟨"HerbrandTablesModel", "clauses", "()I"⟩ ∈ gW := gW_of (gin_4 (List.mem_of_getElem? (i := 107) rfl)) rfl
theorem w_4_108 : Cond.instanceMethod ⟨"HerbrandTablesModel", "clauses", "()I"⟩ ∈ gW := gW_of (gin_4 (List.mem_of_getElem? (i := 108) rfl)) rfl
theorem w_4_109 : Cond.selects "HerbrandTablesModel" ⟨"HerbrandTablesModel", "clauses", "()I"⟩ ⟨"HerbrandTablesModel", "clauses", "()I"⟩ ∈ gW := gW_of (gin_4 (List.mem_of_getElem? (i := 109) rfl)) rfl
theorem w_4_110 : Cond.code ⟨"HerbrandTablesModel", "clauses", "()I"⟩ prog_11_method_23_code 1 (some .int) ∈ gW := gW_of (gin_4 (List.mem_of_getElem? (i := 110) rfl)) rfl
theorem w_4_111 : Cond.methodLink "HerbrandTablesLaw" 76 ⟨"HerbrandTablesModel", "atoms", "()I"⟩ ∈ gW := gW_of (gin_4 (List.mem_of_getElem? (i := 111) rfl)) rfl
theorem w_4_112 : Cond.instanceMethod ⟨"HerbrandTablesModel", "atoms", "()I"⟩ ∈ gW := gW_of (gin_4 (List.mem_of_getElem? (i := 112) rfl)) rfl
theorem w_4_113 : Cond.selects "HerbrandTablesModel" ⟨"HerbrandTablesModel", "atoms", "()I"⟩ ⟨"HerbrandTablesModel", "atoms", "()I"⟩ ∈ gW := gW_of (gin_4 (List.mem_of_getElem? (i := 113) rfl)) rfl
theorem w_4_114 : Cond.code ⟨"HerbrandTablesModel", "atoms", "()I"⟩ prog_11_method_24_code 1 (some .int) ∈ gW := gW_of (gin_4 (List.mem_of_getElem? (i := 114) rfl)) rfl
theorem w_4_115 : Cond.methodLink "HerbrandTablesLaw" 81 ⟨"HerbrandTablesModel", "atom", "(III)I"⟩ ∈ gW := gW_of (gin_4 (List.mem_of_getElem? (i := 115) rfl)) rfl
theorem w_4_116 : Cond.instanceMethod ⟨"HerbrandTablesModel", "atom", "(III)I"⟩ ∈ gW := gW_of (gin_4 (List.mem_of_getElem? (i := 116) rfl)) rfl
theorem w_4_117 : Cond.selects "HerbrandTablesModel" ⟨"HerbrandTablesModel", "atom", "(III)I"⟩ ⟨"HerbrandTablesModel", "atom", "(III)I"⟩ ∈ gW := gW_of (gin_4 (List.mem_of_getElem? (i := 117) rfl)) rfl
theorem w_4_118 : Cond.code ⟨"HerbrandTablesModel", "atom", "(III)I"⟩ prog_11_method_25_code 6 (some .int) ∈ gW := gW_of (gin_4 (List.mem_of_getElem? (i := 118) rfl)) rfl
theorem w_4_119 : Cond.methodLink "HerbrandTablesLaw" 85 ⟨"HerbrandTablesModel", "instances", "()I"⟩ ∈ gW := gW_of (gin_4 (List.mem_of_getElem? (i := 119) rfl)) rfl
theorem w_4_120 : Cond.instanceMethod ⟨"HerbrandTablesModel", "instances", "()I"⟩ ∈ gW := gW_of (gin_4 (List.mem_of_getElem? (i := 120) rfl)) rfl
theorem w_4_121 : Cond.selects "HerbrandTablesModel" ⟨"HerbrandTablesModel", "instances", "()I"⟩ ⟨"HerbrandTablesModel", "instances", "()I"⟩ ∈ gW := gW_of (gin_4 (List.mem_of_getElem? (i := 121) rfl)) rfl
theorem w_4_122 : Cond.code ⟨"HerbrandTablesModel", "instances", "()I"⟩ prog_11_method_27_code 1 (some .int) ∈ gW := gW_of (gin_4 (List.mem_of_getElem? (i := 122) rfl)) rfl
theorem w_4_123 : Cond.methodLink "HerbrandTablesLaw" 89 ⟨"HerbrandTablesModel", "instancesOf", "(I)I"⟩ ∈ gW := gW_of (gin_4 (List.mem_of_getElem? (i := 123) rfl)) rfl
theorem w_4_124 : Cond.instanceMethod ⟨"HerbrandTablesModel", "instancesOf", "(I)I"⟩ ∈ gW := gW_of (gin_4 (List.mem_of_getElem? (i := 124) rfl)) rfl
theorem w_4_125 : Cond.selects "HerbrandTablesModel" ⟨"HerbrandTablesModel", "instancesOf", "(I)I"⟩ ⟨"HerbrandTablesModel", "instancesOf", "(I)I"⟩ ∈ gW := gW_of (gin_4 (List.mem_of_getElem? (i := 125) rfl)) rfl
theorem w_4_126 : Cond.code ⟨"HerbrandTablesModel", "instancesOf", "(I)I"⟩ prog_11_method_29_code 2 (some .int) ∈ gW := gW_of (gin_4 (List.mem_of_getElem? (i := 126) rfl)) rfl
theorem w_4_127 : Cond.methodLink "HerbrandTablesModel" 149 ⟨"HerbrandTablesModel", "isClause", "(I)Z"⟩ ∈ gW := gW_of (gin_4 (List.mem_of_getElem? (i := 127) rfl)) rfl
theorem w_4_129 : Cond.instanceMethod ⟨"HerbrandTablesModel", "isClause", "(I)Z"⟩ ∈ gW := gW_of (gin_4 (List.mem_of_getElem? (i := 129) rfl)) rfl
theorem w_4_130 : Cond.code ⟨"HerbrandTablesModel", "isClause", "(I)Z"⟩ prog_11_method_28_code 2 (some .boolean) ∈ gW := gW_of (gin_4 (List.mem_of_getElem? (i := 130) rfl)) rfl
theorem w_4_131 : Cond.methodLink "HerbrandTablesLaw" 94 ⟨"HerbrandTablesModel", "holds", "()Z"⟩ ∈ gW := gW_of (gin_4 (List.mem_of_getElem? (i := 131) rfl)) rfl
theorem w_4_132 : Cond.instanceMethod ⟨"HerbrandTablesModel", "holds", "()Z"⟩ ∈ gW := gW_of (gin_4 (List.mem_of_getElem? (i := 132) rfl)) rfl
theorem w_4_133 : Cond.selects "HerbrandTablesModel" ⟨"HerbrandTablesModel", "holds", "()Z"⟩ ⟨"HerbrandTablesModel", "holds", "()Z"⟩ ∈ gW := gW_of (gin_4 (List.mem_of_getElem? (i := 133) rfl)) rfl
theorem w_4_134 : Cond.code ⟨"HerbrandTablesModel", "holds", "()Z"⟩ prog_11_method_33_code 1 (some .boolean) ∈ gW := gW_of (gin_4 (List.mem_of_getElem? (i := 134) rfl)) rfl
theorem w_4_135 : Cond.methodLink "HerbrandTablesModel" 155 ⟨"HerbrandTablesModel", "every", "()I"⟩ ∈ gW := gW_of (gin_4 (List.mem_of_getElem? (i := 135) rfl)) rfl
theorem w_4_137 : Cond.instanceMethod ⟨"HerbrandTablesModel", "every", "()I"⟩ ∈ gW := gW_of (gin_4 (List.mem_of_getElem? (i := 137) rfl)) rfl
theorem w_4_138 : Cond.code ⟨"HerbrandTablesModel", "every", "()I"⟩ prog_11_method_32_code 1 (some .int) ∈ gW := gW_of (gin_4 (List.mem_of_getElem? (i := 138) rfl)) rfl
theorem w_4_139 : Cond.methodLink "HerbrandTablesModel" 158 ⟨"HerbrandTablesModel", "count", "(I)I"⟩ ∈ gW := gW_of (gin_4 (List.mem_of_getElem? (i := 139) rfl)) rfl
theorem w_4_141 : Cond.instanceMethod ⟨"HerbrandTablesModel", "count", "(I)I"⟩ ∈ gW := gW_of (gin_4 (List.mem_of_getElem? (i := 141) rfl)) rfl
theorem w_4_142 : Cond.code ⟨"HerbrandTablesModel", "count", "(I)I"⟩ prog_11_method_31_code 4 (some .int) ∈ gW := gW_of (gin_4 (List.mem_of_getElem? (i := 142) rfl)) rfl
theorem w_4_143 : Cond.methodLink "HerbrandTablesModel" 152 ⟨"HerbrandTablesModel", "holdsIn", "(II)Z"⟩ ∈ gW := gW_of (gin_4 (List.mem_of_getElem? (i := 143) rfl)) rfl
theorem w_4_145 : Cond.instanceMethod ⟨"HerbrandTablesModel", "holdsIn", "(II)Z"⟩ ∈ gW := gW_of (gin_4 (List.mem_of_getElem? (i := 145) rfl)) rfl
theorem w_4_146 : Cond.code ⟨"HerbrandTablesModel", "holdsIn", "(II)Z"⟩ prog_11_method_30_code 5 (some .boolean) ∈ gW := gW_of (gin_4 (List.mem_of_getElem? (i := 146) rfl)) rfl
theorem w_4_147 : Cond.methodLink "HerbrandTablesLaw" 97 ⟨"HerbrandTablesModel", "tables", "()I"⟩ ∈ gW := gW_of (gin_4 (List.mem_of_getElem? (i := 147) rfl)) rfl
theorem w_4_148 : Cond.instanceMethod ⟨"HerbrandTablesModel", "tables", "()I"⟩ ∈ gW := gW_of (gin_4 (List.mem_of_getElem? (i := 148) rfl)) rfl
theorem w_4_149 : Cond.selects "HerbrandTablesModel" ⟨"HerbrandTablesModel", "tables", "()I"⟩ ⟨"HerbrandTablesModel", "tables", "()I"⟩ ∈ gW := gW_of (gin_4 (List.mem_of_getElem? (i := 149) rfl)) rfl
theorem w_4_150 : Cond.code ⟨"HerbrandTablesModel", "tables", "()I"⟩ prog_11_method_34_code 1 (some .int) ∈ gW := gW_of (gin_4 (List.mem_of_getElem? (i := 150) rfl)) rfl
theorem w_4_151 : Cond.methodLink "HerbrandTablesLaw" 100 ⟨"HerbrandTablesModel", "least", "()I"⟩ ∈ gW := gW_of (gin_4 (List.mem_of_getElem? (i := 151) rfl)) rfl
theorem w_4_152 : Cond.instanceMethod ⟨"HerbrandTablesModel", "least", "()I"⟩ ∈ gW := gW_of (gin_4 (List.mem_of_getElem? (i := 152) rfl)) rfl
theorem w_4_153 : Cond.selects "HerbrandTablesModel" ⟨"HerbrandTablesModel", "least", "()I"⟩ ⟨"HerbrandTablesModel", "least", "()I"⟩ ∈ gW := gW_of (gin_4 (List.mem_of_getElem? (i := 153) rfl)) rfl
theorem w_4_154 : Cond.code ⟨"HerbrandTablesModel", "least", "()I"⟩ prog_11_method_36_code 2 (some .int) ∈ gW := gW_of (gin_4 (List.mem_of_getElem? (i := 154) rfl)) rfl
theorem w_4_155 : Cond.methodLink "HerbrandTablesModel" 161 ⟨"HerbrandTablesModel", "tableOf", "(I)I"⟩ ∈ gW := gW_of (gin_4 (List.mem_of_getElem? (i := 155) rfl)) rfl
theorem w_4_157 : Cond.instanceMethod ⟨"HerbrandTablesModel", "tableOf", "(I)I"⟩ ∈ gW := gW_of (gin_4 (List.mem_of_getElem? (i := 157) rfl)) rfl
theorem w_4_158 : Cond.code ⟨"HerbrandTablesModel", "tableOf", "(I)I"⟩ prog_11_method_35_code 4 (some .int) ∈ gW := gW_of (gin_4 (List.mem_of_getElem? (i := 158) rfl)) rfl
theorem w_4_159 : Cond.methodLink "HerbrandTablesLaw" 103 ⟨"HerbrandTablesModel", "greatest", "()I"⟩ ∈ gW := gW_of (gin_4 (List.mem_of_getElem? (i := 159) rfl)) rfl
theorem w_4_160 : Cond.instanceMethod ⟨"HerbrandTablesModel", "greatest", "()I"⟩ ∈ gW := gW_of (gin_4 (List.mem_of_getElem? (i := 160) rfl)) rfl
theorem w_4_161 : Cond.selects "HerbrandTablesModel" ⟨"HerbrandTablesModel", "greatest", "()I"⟩ ⟨"HerbrandTablesModel", "greatest", "()I"⟩ ∈ gW := gW_of (gin_4 (List.mem_of_getElem? (i := 161) rfl)) rfl
theorem w_4_162 : Cond.code ⟨"HerbrandTablesModel", "greatest", "()I"⟩ prog_11_method_37_code 2 (some .int) ∈ gW := gW_of (gin_4 (List.mem_of_getElem? (i := 162) rfl)) rfl
theorem w_4_163 : Cond.methodLink "HerbrandTablesLaw" 107 ⟨"HerbrandTablesModel", "forced", "(I)I"⟩ ∈ gW := gW_of (gin_4 (List.mem_of_getElem? (i := 163) rfl)) rfl
theorem w_4_164 : Cond.instanceMethod ⟨"HerbrandTablesModel", "forced", "(I)I"⟩ ∈ gW := gW_of (gin_4 (List.mem_of_getElem? (i := 164) rfl)) rfl
theorem w_4_165 : Cond.selects "HerbrandTablesModel" ⟨"HerbrandTablesModel", "forced", "(I)I"⟩ ⟨"HerbrandTablesModel", "forced", "(I)I"⟩ ∈ gW := gW_of (gin_4 (List.mem_of_getElem? (i := 165) rfl)) rfl
theorem w_4_166 : Cond.code ⟨"HerbrandTablesModel", "forced", "(I)I"⟩ prog_11_method_38_code 6 (some .int) ∈ gW := gW_of (gin_4 (List.mem_of_getElem? (i := 166) rfl)) rfl
theorem w_4_167 : Cond.methodLink "HerbrandTablesLaw" 110 ⟨"HerbrandTablesModel", "without", "(I)Z"⟩ ∈ gW := gW_of (gin_4 (List.mem_of_getElem? (i := 167) rfl)) rfl
theorem w_4_168 : Cond.instanceMethod ⟨"HerbrandTablesModel", "without", "(I)Z"⟩ ∈ gW := gW_of (gin_4 (List.mem_of_getElem? (i := 168) rfl)) rfl
theorem w_4_169 : Cond.selects "HerbrandTablesModel" ⟨"HerbrandTablesModel", "without", "(I)Z"⟩ ⟨"HerbrandTablesModel", "without", "(I)Z"⟩ ∈ gW := gW_of (gin_4 (List.mem_of_getElem? (i := 169) rfl)) rfl
theorem w_4_170 : Cond.code ⟨"HerbrandTablesModel", "without", "(I)Z"⟩ prog_11_method_39_code 2 (some .boolean) ∈ gW := gW_of (gin_4 (List.mem_of_getElem? (i := 170) rfl)) rfl
theorem w_4_171 : Cond.methodLink "HerbrandTablesLaw" 113 ⟨"HerbrandTablesModel", "core", "(I)Z"⟩ ∈ gW := gW_of (gin_4 (List.mem_of_getElem? (i := 171) rfl)) rfl
theorem w_4_172 : Cond.instanceMethod ⟨"HerbrandTablesModel", "core", "(I)Z"⟩ ∈ gW := gW_of (gin_4 (List.mem_of_getElem? (i := 172) rfl)) rfl
theorem w_4_173 : Cond.selects "HerbrandTablesModel" ⟨"HerbrandTablesModel", "core", "(I)Z"⟩ ⟨"HerbrandTablesModel", "core", "(I)Z"⟩ ∈ gW := gW_of (gin_4 (List.mem_of_getElem? (i := 173) rfl)) rfl
theorem w_4_174 : Cond.code ⟨"HerbrandTablesModel", "core", "(I)Z"⟩ prog_11_method_40_code 4 (some .boolean) ∈ gW := gW_of (gin_4 (List.mem_of_getElem? (i := 174) rfl)) rfl
theorem w_4_175 : Cond.constantLong "HerbrandTablesLaw" 45 4294967295 ∈ gW := gW_of (gin_4 (List.mem_of_getElem? (i := 175) rfl)) rfl
theorem w_s_0 : Cond.selects "HerbrandTables$TableSet" ⟨"HerbrandTables$TableSet", "measure", "(I)V"⟩ ⟨"HerbrandTables$TableSet", "measure", "(I)V"⟩ ∈ gW := gW_of (gin_s (List.mem_of_getElem? (i := 0) rfl)) rfl
theorem w_s_1 : Cond.selects "HerbrandTables$Vocabulary" ⟨"HerbrandTables$Vocabulary", "recount", "()V"⟩ ⟨"HerbrandTables$Vocabulary", "recount", "()V"⟩ ∈ gW := gW_of (gin_s (List.mem_of_getElem? (i := 1) rfl)) rfl
theorem w_s_2 : Cond.selects "HerbrandTables$Vocabulary" ⟨"HerbrandTables$Vocabulary", "countAtoms", "(I)I"⟩ ⟨"HerbrandTables$Vocabulary", "countAtoms", "(I)I"⟩ ∈ gW := gW_of (gin_s (List.mem_of_getElem? (i := 2) rfl)) rfl
theorem w_s_3 : Cond.selects "HerbrandTables$Reader" ⟨"HerbrandTables$Reader", "readLiteral", "(LHerbrandTables$Text;)Z"⟩ ⟨"HerbrandTables$Reader", "readLiteral", "(LHerbrandTables$Text;)Z"⟩ ∈ gW := gW_of (gin_s (List.mem_of_getElem? (i := 3) rfl)) rfl
theorem w_s_4 : Cond.selects "HerbrandTables$Reader" ⟨"HerbrandTables$Reader", "readArguments", "(LHerbrandTables$Text;LHerbrandTables$Literal;)Z"⟩ ⟨"HerbrandTables$Reader", "readArguments", "(LHerbrandTables$Text;LHerbrandTables$Literal;)Z"⟩ ∈ gW := gW_of (gin_s (List.mem_of_getElem? (i := 4) rfl)) rfl
theorem w_s_5 : Cond.selects "HerbrandTables$Reader" ⟨"HerbrandTables$Reader", "readJoint", "(LHerbrandTables$Text;)Z"⟩ ⟨"HerbrandTables$Reader", "readJoint", "(LHerbrandTables$Text;)Z"⟩ ∈ gW := gW_of (gin_s (List.mem_of_getElem? (i := 5) rfl)) rfl
theorem w_s_7 : Cond.selects "HerbrandTables$Sentence" ⟨"HerbrandTables$Sentence", "makeInstances", "(LHerbrandTables$Reader;I)V"⟩ ⟨"HerbrandTables$Sentence", "makeInstances", "(LHerbrandTables$Reader;I)V"⟩ ∈ gW := gW_of (gin_s (List.mem_of_getElem? (i := 7) rfl)) rfl
theorem w_s_8 : Cond.selects "HerbrandTables$Sentence" ⟨"HerbrandTables$Sentence", "makeInstance", "(LHerbrandTables$Reader;I)V"⟩ ⟨"HerbrandTables$Sentence", "makeInstance", "(LHerbrandTables$Reader;I)V"⟩ ∈ gW := gW_of (gin_s (List.mem_of_getElem? (i := 8) rfl)) rfl
theorem w_s_9 : Cond.selects "HerbrandTables$Sentence" ⟨"HerbrandTables$Sentence", "atomOf", "(LHerbrandTables$Literal;)I"⟩ ⟨"HerbrandTables$Sentence", "atomOf", "(LHerbrandTables$Literal;)I"⟩ ∈ gW := gW_of (gin_s (List.mem_of_getElem? (i := 9) rfl)) rfl
theorem w_s_10 : Cond.selects "HerbrandTables$TableSet" ⟨"HerbrandTables$TableSet", "addTablesWith", "(IZ)V"⟩ ⟨"HerbrandTables$TableSet", "addTablesWith", "(IZ)V"⟩ ∈ gW := gW_of (gin_s (List.mem_of_getElem? (i := 10) rfl)) rfl
theorem w_s_11 : Cond.selects "HerbrandTables$TableSet" ⟨"HerbrandTables$TableSet", "wordWith", "(IIZ)J"⟩ ⟨"HerbrandTables$TableSet", "wordWith", "(IIZ)J"⟩ ∈ gW := gW_of (gin_s (List.mem_of_getElem? (i := 11) rfl)) rfl
theorem w_s_12 : Cond.selects "HerbrandTables" ⟨"HerbrandTables", "requireSentence", "()V"⟩ ⟨"HerbrandTables", "requireSentence", "()V"⟩ ∈ gW := gW_of (gin_s (List.mem_of_getElem? (i := 12) rfl)) rfl
theorem w_s_13 : Cond.selects "HerbrandTables" ⟨"HerbrandTables", "someTables", "()LHerbrandTables$TableSet;"⟩ ⟨"HerbrandTables", "someTables", "()LHerbrandTables$TableSet;"⟩ ∈ gW := gW_of (gin_s (List.mem_of_getElem? (i := 13) rfl)) rfl
theorem w_s_14 : Cond.selects "HerbrandTables$TableSet" ⟨"HerbrandTables$TableSet", "has", "(I)Z"⟩ ⟨"HerbrandTables$TableSet", "has", "(I)Z"⟩ ∈ gW := gW_of (gin_s (List.mem_of_getElem? (i := 14) rfl)) rfl
theorem w_s_15 : Cond.selects "HerbrandTablesModel" ⟨"HerbrandTablesModel", "readText", "()I"⟩ ⟨"HerbrandTablesModel", "readText", "()I"⟩ ∈ gW := gW_of (gin_s (List.mem_of_getElem? (i := 15) rfl)) rfl
theorem w_s_16 : Cond.selects "HerbrandTablesModel" ⟨"HerbrandTablesModel", "readLiteral", "(II)I"⟩ ⟨"HerbrandTablesModel", "readLiteral", "(II)I"⟩ ∈ gW := gW_of (gin_s (List.mem_of_getElem? (i := 16) rfl)) rfl
theorem w_s_17 : Cond.selects "HerbrandTablesModel" ⟨"HerbrandTablesModel", "charAt", "(I)I"⟩ ⟨"HerbrandTablesModel", "charAt", "(I)I"⟩ ∈ gW := gW_of (gin_s (List.mem_of_getElem? (i := 17) rfl)) rfl
theorem w_s_18 : Cond.selects "HerbrandTablesModel" ⟨"HerbrandTablesModel", "take", "()V"⟩ ⟨"HerbrandTablesModel", "take", "()V"⟩ ∈ gW := gW_of (gin_s (List.mem_of_getElem? (i := 18) rfl)) rfl
theorem w_s_19 : Cond.selects "HerbrandTablesModel" ⟨"HerbrandTablesModel", "makeInstances", "(I)V"⟩ ⟨"HerbrandTablesModel", "makeInstances", "(I)V"⟩ ∈ gW := gW_of (gin_s (List.mem_of_getElem? (i := 19) rfl)) rfl
theorem w_s_20 : Cond.selects "HerbrandTablesModel" ⟨"HerbrandTablesModel", "isThing", "(I)Z"⟩ ⟨"HerbrandTablesModel", "isThing", "(I)Z"⟩ ∈ gW := gW_of (gin_s (List.mem_of_getElem? (i := 20) rfl)) rfl
theorem w_s_21 : Cond.selects "HerbrandTablesModel" ⟨"HerbrandTablesModel", "instance", "(II)I"⟩ ⟨"HerbrandTablesModel", "instance", "(II)I"⟩ ∈ gW := gW_of (gin_s (List.mem_of_getElem? (i := 21) rfl)) rfl
theorem w_s_22 : Cond.selects "HerbrandTablesModel" ⟨"HerbrandTablesModel", "atomOf", "(III)I"⟩ ⟨"HerbrandTablesModel", "atomOf", "(III)I"⟩ ∈ gW := gW_of (gin_s (List.mem_of_getElem? (i := 22) rfl)) rfl
theorem w_s_23 : Cond.selects "HerbrandTablesModel" ⟨"HerbrandTablesModel", "has", "(II)Z"⟩ ⟨"HerbrandTablesModel", "has", "(II)Z"⟩ ∈ gW := gW_of (gin_s (List.mem_of_getElem? (i := 23) rfl)) rfl
theorem w_s_24 : Cond.selects "HerbrandTablesModel" ⟨"HerbrandTablesModel", "tryTables", "(I)V"⟩ ⟨"HerbrandTablesModel", "tryTables", "(I)V"⟩ ∈ gW := gW_of (gin_s (List.mem_of_getElem? (i := 24) rfl)) rfl
theorem w_s_25 : Cond.selects "HerbrandTablesModel" ⟨"HerbrandTablesModel", "allInstances", "()I"⟩ ⟨"HerbrandTablesModel", "allInstances", "()I"⟩ ∈ gW := gW_of (gin_s (List.mem_of_getElem? (i := 25) rfl)) rfl
theorem w_s_26 : Cond.selects "HerbrandTablesModel" ⟨"HerbrandTablesModel", "isClause", "(I)Z"⟩ ⟨"HerbrandTablesModel", "isClause", "(I)Z"⟩ ∈ gW := gW_of (gin_s (List.mem_of_getElem? (i := 26) rfl)) rfl
theorem w_s_27 : Cond.selects "HerbrandTablesModel" ⟨"HerbrandTablesModel", "every", "()I"⟩ ⟨"HerbrandTablesModel", "every", "()I"⟩ ∈ gW := gW_of (gin_s (List.mem_of_getElem? (i := 27) rfl)) rfl
theorem w_s_28 : Cond.selects "HerbrandTablesModel" ⟨"HerbrandTablesModel", "count", "(I)I"⟩ ⟨"HerbrandTablesModel", "count", "(I)I"⟩ ∈ gW := gW_of (gin_s (List.mem_of_getElem? (i := 28) rfl)) rfl
theorem w_s_29 : Cond.selects "HerbrandTablesModel" ⟨"HerbrandTablesModel", "holdsIn", "(II)Z"⟩ ⟨"HerbrandTablesModel", "holdsIn", "(II)Z"⟩ ∈ gW := gW_of (gin_s (List.mem_of_getElem? (i := 29) rfl)) rfl
theorem w_s_30 : Cond.selects "HerbrandTablesModel" ⟨"HerbrandTablesModel", "tableOf", "(I)I"⟩ ⟨"HerbrandTablesModel", "tableOf", "(I)I"⟩ ∈ gW := gW_of (gin_s (List.mem_of_getElem? (i := 30) rfl)) rfl
