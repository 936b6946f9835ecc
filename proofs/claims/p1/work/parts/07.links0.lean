/-! The classes of the worlds, the fields and the calls as the pools name them; printed by a program. -/
theorem w1 : (Jvm.Cond.initialized "CiteForge") ∈ wAll := w_of1 1 (by decide +kernel) rfl
theorem w2 : (Jvm.Cond.initialized "CiteForge$Shelf") ∈ wAll := w_of1 2 (by decide +kernel) rfl
theorem w3 : (Jvm.Cond.initialized "CiteForge$Entry") ∈ wAll := w_of1 3 (by decide +kernel) rfl
theorem w4 : (Jvm.Cond.initialized "CiteForge$Text") ∈ wAll := w_of1 4 (by decide +kernel) rfl
theorem w5 : (Jvm.Cond.initialized "CiteForge$Reader") ∈ wAll := w_of1 5 (by decide +kernel) rfl
theorem w6 : (Jvm.Cond.initialized "CiteForge$Citations") ∈ wAll := w_of1 6 (by decide +kernel) rfl
theorem w7 : (Jvm.Cond.initialized "CiteForge$Stack") ∈ wAll := w_of1 7 (by decide +kernel) rfl
theorem w8 : (Jvm.Cond.initialized "CiteForge$Value") ∈ wAll := w_of1 8 (by decide +kernel) rfl
theorem w9 : (Jvm.Cond.initialized "CiteForge$Page") ∈ wAll := w_of1 9 (by decide +kernel) rfl
theorem w10 : (Jvm.Cond.initialized "CiteForge$Machine") ∈ wAll := w_of1 10 (by decide +kernel) rfl
theorem w11 : (Jvm.Cond.initialized "CiteForge$People") ∈ wAll := w_of1 11 (by decide +kernel) rfl
theorem w12 : (Jvm.Cond.initialized "CiteForgeModel") ∈ wAll := w_of1 12 (by decide +kernel) rfl
theorem w18 : (Jvm.Cond.initialized "java/lang/Math") ∈ wAll := w_of1 18 (by decide +kernel) rfl
theorem w22 : (Jvm.Cond.initialized "CiteForge$Editing") ∈ wAll := w_of1 22 (by decide +kernel) rfl
theorem w24 : (Jvm.Cond.classLink "CiteForgeLaw" (8 : Nat) "CiteForge") ∈ wAll := w_of1 24 (by decide +kernel) rfl
theorem w25 : (Jvm.Cond.instantiable "CiteForge" (7 : Nat)) ∈ wAll := w_of1 25 (by decide +kernel) rfl
theorem w26 : (Jvm.Cond.methodLink "CiteForgeLaw" (68 : Nat) ({ cls := "CiteForge", name := "<init>", desc := "()V" } : Jvm.MethodName)) ∈ wAll := w_of1 26 (by decide +kernel) rfl
theorem w27 : (Jvm.Cond.instanceMethod ({ cls := "CiteForge", name := "<init>", desc := "()V" } : Jvm.MethodName)) ∈ wAll := w_of1 27 (by decide +kernel) rfl
theorem w28 : (Jvm.Cond.code ({ cls := "CiteForge", name := "<init>", desc := "()V" } : Jvm.MethodName) prog_1_method_1_code (1 : Nat) (Option.none : Option Jvm.ClassFile.FieldType)) ∈ wAll := w_of1 28 (by decide +kernel) rfl
theorem w29 : (Jvm.Cond.methodLink "CiteForge" (1 : Nat) ({ cls := "java/lang/Object", name := "<init>", desc := "()V" } : Jvm.MethodName)) ∈ wAll := w_of1 29 (by decide +kernel) rfl
theorem w30 : (Jvm.Cond.instanceMethod ({ cls := "java/lang/Object", name := "<init>", desc := "()V" } : Jvm.MethodName)) ∈ wAll := w_of1 30 (by decide +kernel) rfl
theorem w31 : (Jvm.Cond.code ({ cls := "java/lang/Object", name := "<init>", desc := "()V" } : Jvm.MethodName) object_method_1_code (1 : Nat) (Option.none : Option Jvm.ClassFile.FieldType)) ∈ wAll := w_of1 31 (by decide +kernel) rfl
theorem w32 : (Jvm.Cond.classLink "CiteForge" (13 : Nat) "CiteForge$Shelf") ∈ wAll := w_of1 32 (by decide +kernel) rfl
theorem w33 : (Jvm.Cond.instantiable "CiteForge$Shelf" (3 : Nat)) ∈ wAll := w_of1 33 (by decide +kernel) rfl
theorem w34 : (Jvm.Cond.methodLink "CiteForge" (15 : Nat) ({ cls := "CiteForge$Shelf", name := "<init>", desc := "([I)V" } : Jvm.MethodName)) ∈ wAll := w_of1 34 (by decide +kernel) rfl
theorem w35 : (Jvm.Cond.instanceMethod ({ cls := "CiteForge$Shelf", name := "<init>", desc := "([I)V" } : Jvm.MethodName)) ∈ wAll := w_of1 35 (by decide +kernel) rfl
theorem w36 : (Jvm.Cond.code ({ cls := "CiteForge$Shelf", name := "<init>", desc := "([I)V" } : Jvm.MethodName) prog_9_method_1_code (3 : Nat) (Option.none : Option Jvm.ClassFile.FieldType)) ∈ wAll := w_of1 36 (by decide +kernel) rfl
theorem w37 : (Jvm.Cond.methodLink "CiteForge$Shelf" (3 : Nat) ({ cls := "java/lang/Object", name := "<init>", desc := "()V" } : Jvm.MethodName)) ∈ wAll := w_of1 37 (by decide +kernel) rfl
theorem w38 : (Jvm.Cond.classLink "CiteForge$Shelf" (15 : Nat) "CiteForge$Entry") ∈ wAll := w_of1 38 (by decide +kernel) rfl
theorem w40 : (Jvm.Cond.instantiable "CiteForge$Entry" (7 : Nat)) ∈ wAll := w_of1 40 (by decide +kernel) rfl
theorem w41 : (Jvm.Cond.methodLink "CiteForge$Shelf" (21 : Nat) ({ cls := "CiteForge$Entry", name := "<init>", desc := "()V" } : Jvm.MethodName)) ∈ wAll := w_of1 41 (by decide +kernel) rfl
theorem w42 : (Jvm.Cond.instanceMethod ({ cls := "CiteForge$Entry", name := "<init>", desc := "()V" } : Jvm.MethodName)) ∈ wAll := w_of1 42 (by decide +kernel) rfl
theorem w43 : (Jvm.Cond.code ({ cls := "CiteForge$Entry", name := "<init>", desc := "()V" } : Jvm.MethodName) prog_4_method_1_code (2 : Nat) (Option.none : Option Jvm.ClassFile.FieldType)) ∈ wAll := w_of1 43 (by decide +kernel) rfl
theorem w44 : (Jvm.Cond.methodLink "CiteForge$Entry" (3 : Nat) ({ cls := "java/lang/Object", name := "<init>", desc := "()V" } : Jvm.MethodName)) ∈ wAll := w_of1 44 (by decide +kernel) rfl
theorem w45 : (Jvm.Cond.classLink "CiteForge$Entry" (15 : Nat) "CiteForge$Text") ∈ wAll := w_of1 45 (by decide +kernel) rfl
theorem w47 : (Jvm.Cond.instantiable "CiteForge$Text" (2 : Nat)) ∈ wAll := w_of1 47 (by decide +kernel) rfl
theorem w48 : (Jvm.Cond.methodLink "CiteForge$Entry" (21 : Nat) ({ cls := "CiteForge$Text", name := "<init>", desc := "(I)V" } : Jvm.MethodName)) ∈ wAll := w_of1 48 (by decide +kernel) rfl
theorem w49 : (Jvm.Cond.instanceMethod ({ cls := "CiteForge$Text", name := "<init>", desc := "(I)V" } : Jvm.MethodName)) ∈ wAll := w_of1 49 (by decide +kernel) rfl
theorem w50 : (Jvm.Cond.code ({ cls := "CiteForge$Text", name := "<init>", desc := "(I)V" } : Jvm.MethodName) prog_11_method_1_code (2 : Nat) (Option.none : Option Jvm.ClassFile.FieldType)) ∈ wAll := w_of1 50 (by decide +kernel) rfl
theorem w51 : (Jvm.Cond.methodLink "CiteForge$Text" (3 : Nat) ({ cls := "java/lang/Object", name := "<init>", desc := "()V" } : Jvm.MethodName)) ∈ wAll := w_of1 51 (by decide +kernel) rfl
theorem w52 : (Jvm.Cond.fieldLink "CiteForge$Text" (9 : Nat) "CiteForge$Text" "chars" "[C") ∈ wAll := w_of1 52 (by decide +kernel) rfl
theorem w53 : (Jvm.Cond.fieldLink "CiteForge$Text" (15 : Nat) "CiteForge$Text" "length" "I") ∈ wAll := w_of1 53 (by decide +kernel) rfl
theorem w54 : (Jvm.Cond.laysFinal "CiteForge$Text" "CiteForge$Text" "chars" "[C") ∈ wAll := w_of1 54 (by decide +kernel) rfl
theorem w56 : (Jvm.Cond.lays "CiteForge$Text" "CiteForge$Text" "length" "I") ∈ wAll := w_of1 56 (by decide +kernel) rfl
theorem w59 : (Jvm.Cond.arrayClass Jvm.ClassFile.FieldType.int) ∈ wAll := w_of1 59 (by decide +kernel) rfl
theorem w60 : (Jvm.Cond.arrayClass Jvm.ClassFile.FieldType.long) ∈ wAll := w_of1 60 (by decide +kernel) rfl
theorem w61 : (Jvm.Cond.arrayClass Jvm.ClassFile.FieldType.char) ∈ wAll := w_of1 61 (by decide +kernel) rfl
theorem w62 : (Jvm.Cond.fieldLink "CiteForge$Entry" (28 : Nat) "CiteForge$Entry" "key" "J") ∈ wAll := w_of1 62 (by decide +kernel) rfl
theorem w63 : (Jvm.Cond.fieldLinkNest "CiteForge$Shelf" (30 : Nat) "CiteForge$Entry" "key" "J" "CiteForge") ∈ nAll := n_of1 63 (by decide +kernel) rfl
theorem w64 : (Jvm.Cond.fieldLinkNest "CiteForge" (137 : Nat) "CiteForge$Entry" "key" "J" "CiteForge") ∈ nAll := n_of1 64 (by decide +kernel) rfl
theorem w65 : (Jvm.Cond.fieldLinkNest "CiteForge$Citations" (58 : Nat) "CiteForge$Entry" "key" "J" "CiteForge") ∈ nAll := n_of1 65 (by decide +kernel) rfl
theorem w66 : (Jvm.Cond.fieldLinkNest "CiteForge$Machine" (189 : Nat) "CiteForge$Entry" "key" "J" "CiteForge") ∈ nAll := n_of1 66 (by decide +kernel) rfl
theorem w67 : (Jvm.Cond.fieldLink "CiteForge$Entry" (32 : Nat) "CiteForge$Entry" "type" "J") ∈ wAll := w_of1 67 (by decide +kernel) rfl
theorem w68 : (Jvm.Cond.fieldLinkNest "CiteForge$Machine" (195 : Nat) "CiteForge$Entry" "type" "J" "CiteForge") ∈ nAll := n_of1 68 (by decide +kernel) rfl
theorem w69 : (Jvm.Cond.fieldLink "CiteForge$Entry" (35 : Nat) "CiteForge$Entry" "crossref" "J") ∈ wAll := w_of1 69 (by decide +kernel) rfl
theorem w70 : (Jvm.Cond.fieldLinkNest "CiteForge$Shelf" (44 : Nat) "CiteForge$Entry" "crossref" "J" "CiteForge") ∈ nAll := n_of1 70 (by decide +kernel) rfl
theorem w71 : (Jvm.Cond.fieldLinkNest "CiteForge$Citations" (79 : Nat) "CiteForge$Entry" "crossref" "J" "CiteForge") ∈ nAll := n_of1 71 (by decide +kernel) rfl
theorem w72 : (Jvm.Cond.fieldLink "CiteForge$Entry" (38 : Nat) "CiteForge$Entry" "fields" "I") ∈ wAll := w_of1 72 (by decide +kernel) rfl
theorem w73 : (Jvm.Cond.fieldLink "CiteForge$Entry" (11 : Nat) "CiteForge$Entry" "fieldWords" "[J") ∈ wAll := w_of1 73 (by decide +kernel) rfl
theorem w74 : (Jvm.Cond.fieldLink "CiteForge$Entry" (17 : Nat) "CiteForge$Entry" "fieldTexts" "[LCiteForge$Text;") ∈ wAll := w_of1 74 (by decide +kernel) rfl
theorem w75 : (Jvm.Cond.fieldLink "CiteForge$Entry" (24 : Nat) "CiteForge$Entry" "sortKey" "LCiteForge$Text;") ∈ wAll := w_of1 75 (by decide +kernel) rfl
theorem w76 : (Jvm.Cond.fieldLinkNest "CiteForge$Citations" (70 : Nat) "CiteForge$Entry" "sortKey" "LCiteForge$Text;" "CiteForge") ∈ nAll := n_of1 76 (by decide +kernel) rfl
theorem w77 : (Jvm.Cond.fieldLinkNest "CiteForge$Machine" (198 : Nat) "CiteForge$Entry" "sortKey" "LCiteForge$Text;" "CiteForge") ∈ nAll := n_of1 77 (by decide +kernel) rfl
theorem w78 : (Jvm.Cond.lays "CiteForge$Entry" "CiteForge$Entry" "key" "J") ∈ wAll := w_of1 78 (by decide +kernel) rfl
theorem w80 : (Jvm.Cond.lays "CiteForge$Entry" "CiteForge$Entry" "type" "J") ∈ wAll := w_of1 80 (by decide +kernel) rfl
theorem w82 : (Jvm.Cond.lays "CiteForge$Entry" "CiteForge$Entry" "crossref" "J") ∈ wAll := w_of1 82 (by decide +kernel) rfl
theorem w84 : (Jvm.Cond.lays "CiteForge$Entry" "CiteForge$Entry" "fields" "I") ∈ wAll := w_of1 84 (by decide +kernel) rfl
theorem w86 : (Jvm.Cond.laysFinal "CiteForge$Entry" "CiteForge$Entry" "fieldWords" "[J") ∈ wAll := w_of1 86 (by decide +kernel) rfl
theorem w88 : (Jvm.Cond.laysFinal "CiteForge$Entry" "CiteForge$Entry" "fieldTexts" "[LCiteForge$Text;") ∈ wAll := w_of1 88 (by decide +kernel) rfl
theorem w90 : (Jvm.Cond.laysFinal "CiteForge$Entry" "CiteForge$Entry" "sortKey" "LCiteForge$Text;") ∈ wAll := w_of1 90 (by decide +kernel) rfl
theorem w93 : (Jvm.Cond.fieldLink "CiteForge$Shelf" (17 : Nat) "CiteForge$Shelf" "entries" "[LCiteForge$Entry;") ∈ wAll := w_of1 93 (by decide +kernel) rfl
theorem w94 : (Jvm.Cond.fieldLink "CiteForge$Shelf" (9 : Nat) "CiteForge$Shelf" "warned" "[I") ∈ wAll := w_of1 94 (by decide +kernel) rfl
theorem w95 : (Jvm.Cond.fieldLink "CiteForge$Shelf" (22 : Nat) "CiteForge$Shelf" "kept" "I") ∈ wAll := w_of1 95 (by decide +kernel) rfl
theorem w96 : (Jvm.Cond.laysFinal "CiteForge$Shelf" "CiteForge$Shelf" "entries" "[LCiteForge$Entry;") ∈ wAll := w_of1 96 (by decide +kernel) rfl
theorem w98 : (Jvm.Cond.laysFinal "CiteForge$Shelf" "CiteForge$Shelf" "warned" "[I") ∈ wAll := w_of1 98 (by decide +kernel) rfl
theorem w100 : (Jvm.Cond.lays "CiteForge$Shelf" "CiteForge$Shelf" "kept" "I") ∈ wAll := w_of1 100 (by decide +kernel) rfl
theorem w103 : (Jvm.Cond.classLink "CiteForge" (22 : Nat) "CiteForge$Reader") ∈ wAll := w_of1 103 (by decide +kernel) rfl
theorem w104 : (Jvm.Cond.instantiable "CiteForge$Reader" (14 : Nat)) ∈ wAll := w_of1 104 (by decide +kernel) rfl
theorem w105 : (Jvm.Cond.methodLink "CiteForge" (24 : Nat) ({ cls := "CiteForge$Reader", name := "<init>", desc := "(LCiteForge$Shelf;[I)V" } : Jvm.MethodName)) ∈ wAll := w_of1 105 (by decide +kernel) rfl
theorem w106 : (Jvm.Cond.instanceMethod ({ cls := "CiteForge$Reader", name := "<init>", desc := "(LCiteForge$Shelf;[I)V" } : Jvm.MethodName)) ∈ wAll := w_of1 106 (by decide +kernel) rfl
theorem w107 : (Jvm.Cond.code ({ cls := "CiteForge$Reader", name := "<init>", desc := "(LCiteForge$Shelf;[I)V" } : Jvm.MethodName) prog_8_method_1_code (4 : Nat) (Option.none : Option Jvm.ClassFile.FieldType)) ∈ wAll := w_of1 107 (by decide +kernel) rfl
theorem w108 : (Jvm.Cond.methodLink "CiteForge$Reader" (3 : Nat) ({ cls := "java/lang/Object", name := "<init>", desc := "()V" } : Jvm.MethodName)) ∈ wAll := w_of1 108 (by decide +kernel) rfl
theorem w109 : (Jvm.Cond.classLink "CiteForge$Reader" (19 : Nat) "CiteForge$Text") ∈ wAll := w_of1 109 (by decide +kernel) rfl
theorem w110 : (Jvm.Cond.methodLink "CiteForge$Reader" (21 : Nat) ({ cls := "CiteForge$Text", name := "<init>", desc := "(I)V" } : Jvm.MethodName)) ∈ wAll := w_of1 110 (by decide +kernel) rfl
theorem w111 : (Jvm.Cond.fieldLink "CiteForge$Reader" (9 : Nat) "CiteForge$Reader" "shelf" "LCiteForge$Shelf;") ∈ wAll := w_of1 111 (by decide +kernel) rfl
theorem w112 : (Jvm.Cond.fieldLink "CiteForge$Reader" (15 : Nat) "CiteForge$Reader" "warned" "[I") ∈ wAll := w_of1 112 (by decide +kernel) rfl
theorem w113 : (Jvm.Cond.fieldLink "CiteForge$Reader" (24 : Nat) "CiteForge$Reader" "source" "LCiteForge$Text;") ∈ wAll := w_of1 113 (by decide +kernel) rfl
theorem w114 : (Jvm.Cond.fieldLink "CiteForge$Reader" (31 : Nat) "CiteForge$Reader" "stringWords" "[J") ∈ wAll := w_of1 114 (by decide +kernel) rfl
theorem w115 : (Jvm.Cond.fieldLink "CiteForge$Reader" (35 : Nat) "CiteForge$Reader" "stringTexts" "[LCiteForge$Text;") ∈ wAll := w_of1 115 (by decide +kernel) rfl
theorem w116 : (Jvm.Cond.fieldLink "CiteForge$Reader" (66 : Nat) "CiteForge$Reader" "strings" "I") ∈ wAll := w_of1 116 (by decide +kernel) rfl
theorem w117 : (Jvm.Cond.fieldLink "CiteForge$Reader" (70 : Nat) "CiteForge$Reader" "place" "I") ∈ wAll := w_of1 117 (by decide +kernel) rfl
theorem w118 : (Jvm.Cond.fieldLink "CiteForge$Reader" (73 : Nat) "CiteForge$Reader" "wrong" "I") ∈ wAll := w_of1 118 (by decide +kernel) rfl
theorem w119 : (Jvm.Cond.fieldLink "CiteForge$Reader" (28 : Nat) "CiteForge$Reader" "pieceOf" "LCiteForge$Text;") ∈ wAll := w_of1 119 (by decide +kernel) rfl
theorem w120 : (Jvm.Cond.fieldLink "CiteForge$Reader" (170 : Nat) "CiteForge$Reader" "pieceBegin" "I") ∈ wAll := w_of1 120 (by decide +kernel) rfl
theorem w121 : (Jvm.Cond.fieldLink "CiteForge$Reader" (167 : Nat) "CiteForge$Reader" "pieceEnd" "I") ∈ wAll := w_of1 121 (by decide +kernel) rfl
theorem w122 : (Jvm.Cond.fieldLink "CiteForge$Reader" (39 : Nat) "CiteForge$Reader" "value" "LCiteForge$Text;") ∈ wAll := w_of1 122 (by decide +kernel) rfl
theorem w123 : (Jvm.Cond.fieldLink "CiteForge$Reader" (124 : Nat) "CiteForge$Reader" "blankWaits" "Z") ∈ wAll := w_of1 123 (by decide +kernel) rfl
theorem w124 : (Jvm.Cond.fieldLink "CiteForge$Reader" (128 : Nat) "CiteForge$Reader" "valueIsCut" "Z") ∈ wAll := w_of1 124 (by decide +kernel) rfl
theorem w125 : (Jvm.Cond.laysFinal "CiteForge$Reader" "CiteForge$Reader" "shelf" "LCiteForge$Shelf;") ∈ wAll := w_of1 125 (by decide +kernel) rfl
theorem w127 : (Jvm.Cond.laysFinal "CiteForge$Reader" "CiteForge$Reader" "warned" "[I") ∈ wAll := w_of1 127 (by decide +kernel) rfl
theorem w129 : (Jvm.Cond.laysFinal "CiteForge$Reader" "CiteForge$Reader" "source" "LCiteForge$Text;") ∈ wAll := w_of1 129 (by decide +kernel) rfl
theorem w131 : (Jvm.Cond.laysFinal "CiteForge$Reader" "CiteForge$Reader" "stringWords" "[J") ∈ wAll := w_of1 131 (by decide +kernel) rfl
theorem w133 : (Jvm.Cond.laysFinal "CiteForge$Reader" "CiteForge$Reader" "stringTexts" "[LCiteForge$Text;") ∈ wAll := w_of1 133 (by decide +kernel) rfl
theorem w135 : (Jvm.Cond.lays "CiteForge$Reader" "CiteForge$Reader" "strings" "I") ∈ wAll := w_of1 135 (by decide +kernel) rfl
theorem w137 : (Jvm.Cond.lays "CiteForge$Reader" "CiteForge$Reader" "place" "I") ∈ wAll := w_of1 137 (by decide +kernel) rfl
theorem w139 : (Jvm.Cond.lays "CiteForge$Reader" "CiteForge$Reader" "wrong" "I") ∈ wAll := w_of1 139 (by decide +kernel) rfl
theorem w141 : (Jvm.Cond.lays "CiteForge$Reader" "CiteForge$Reader" "pieceOf" "LCiteForge$Text;") ∈ wAll := w_of1 141 (by decide +kernel) rfl
theorem w143 : (Jvm.Cond.lays "CiteForge$Reader" "CiteForge$Reader" "pieceBegin" "I") ∈ wAll := w_of1 143 (by decide +kernel) rfl
theorem w145 : (Jvm.Cond.lays "CiteForge$Reader" "CiteForge$Reader" "pieceEnd" "I") ∈ wAll := w_of1 145 (by decide +kernel) rfl
theorem w147 : (Jvm.Cond.laysFinal "CiteForge$Reader" "CiteForge$Reader" "value" "LCiteForge$Text;") ∈ wAll := w_of1 147 (by decide +kernel) rfl
theorem w149 : (Jvm.Cond.lays "CiteForge$Reader" "CiteForge$Reader" "blankWaits" "Z") ∈ wAll := w_of1 149 (by decide +kernel) rfl
theorem w151 : (Jvm.Cond.lays "CiteForge$Reader" "CiteForge$Reader" "valueIsCut" "Z") ∈ wAll := w_of1 151 (by decide +kernel) rfl
theorem w154 : (Jvm.Cond.classLink "CiteForge" (31 : Nat) "CiteForge$Citations") ∈ wAll := w_of1 154 (by decide +kernel) rfl
theorem w155 : (Jvm.Cond.instantiable "CiteForge$Citations" (6 : Nat)) ∈ wAll := w_of1 155 (by decide +kernel) rfl
theorem w156 : (Jvm.Cond.methodLink "CiteForge" (33 : Nat) ({ cls := "CiteForge$Citations", name := "<init>", desc := "(LCiteForge$Shelf;[I)V" } : Jvm.MethodName)) ∈ wAll := w_of1 156 (by decide +kernel) rfl
theorem w157 : (Jvm.Cond.instanceMethod ({ cls := "CiteForge$Citations", name := "<init>", desc := "(LCiteForge$Shelf;[I)V" } : Jvm.MethodName)) ∈ wAll := w_of1 157 (by decide +kernel) rfl
theorem w158 : (Jvm.Cond.code ({ cls := "CiteForge$Citations", name := "<init>", desc := "(LCiteForge$Shelf;[I)V" } : Jvm.MethodName) prog_2_method_1_code (3 : Nat) (Option.none : Option Jvm.ClassFile.FieldType)) ∈ wAll := w_of1 158 (by decide +kernel) rfl
theorem w159 : (Jvm.Cond.methodLink "CiteForge$Citations" (3 : Nat) ({ cls := "java/lang/Object", name := "<init>", desc := "()V" } : Jvm.MethodName)) ∈ wAll := w_of1 159 (by decide +kernel) rfl
theorem w160 : (Jvm.Cond.classLink "CiteForge$Citations" (25 : Nat) "CiteForge$Entry") ∈ wAll := w_of1 160 (by decide +kernel) rfl
theorem w161 : (Jvm.Cond.fieldLink "CiteForge$Citations" (9 : Nat) "CiteForge$Citations" "shelf" "LCiteForge$Shelf;") ∈ wAll := w_of1 161 (by decide +kernel) rfl
theorem w162 : (Jvm.Cond.fieldLink "CiteForge$Citations" (15 : Nat) "CiteForge$Citations" "warned" "[I") ∈ wAll := w_of1 162 (by decide +kernel) rfl
theorem w163 : (Jvm.Cond.fieldLink "CiteForge$Citations" (19 : Nat) "CiteForge$Citations" "words" "[J") ∈ wAll := w_of1 163 (by decide +kernel) rfl
theorem w164 : (Jvm.Cond.fieldLink "CiteForge$Citations" (31 : Nat) "CiteForge$Citations" "cited" "I") ∈ wAll := w_of1 164 (by decide +kernel) rfl
theorem w165 : (Jvm.Cond.fieldLink "CiteForge$Citations" (27 : Nat) "CiteForge$Citations" "list" "[LCiteForge$Entry;") ∈ wAll := w_of1 165 (by decide +kernel) rfl
theorem w166 : (Jvm.Cond.fieldLink "CiteForge$Citations" (39 : Nat) "CiteForge$Citations" "listSize" "I") ∈ wAll := w_of1 166 (by decide +kernel) rfl
theorem w167 : (Jvm.Cond.laysFinal "CiteForge$Citations" "CiteForge$Citations" "shelf" "LCiteForge$Shelf;") ∈ wAll := w_of1 167 (by decide +kernel) rfl
theorem w169 : (Jvm.Cond.laysFinal "CiteForge$Citations" "CiteForge$Citations" "warned" "[I") ∈ wAll := w_of1 169 (by decide +kernel) rfl
theorem w171 : (Jvm.Cond.laysFinal "CiteForge$Citations" "CiteForge$Citations" "words" "[J") ∈ wAll := w_of1 171 (by decide +kernel) rfl
theorem w173 : (Jvm.Cond.lays "CiteForge$Citations" "CiteForge$Citations" "cited" "I") ∈ wAll := w_of1 173 (by decide +kernel) rfl
theorem w175 : (Jvm.Cond.laysFinal "CiteForge$Citations" "CiteForge$Citations" "list" "[LCiteForge$Entry;") ∈ wAll := w_of1 175 (by decide +kernel) rfl
theorem w177 : (Jvm.Cond.lays "CiteForge$Citations" "CiteForge$Citations" "listSize" "I") ∈ wAll := w_of1 177 (by decide +kernel) rfl
theorem w180 : (Jvm.Cond.classLink "CiteForge" (38 : Nat) "CiteForge$Stack") ∈ wAll := w_of1 180 (by decide +kernel) rfl
theorem w181 : (Jvm.Cond.instantiable "CiteForge$Stack" (3 : Nat)) ∈ wAll := w_of1 181 (by decide +kernel) rfl
theorem w182 : (Jvm.Cond.methodLink "CiteForge" (40 : Nat) ({ cls := "CiteForge$Stack", name := "<init>", desc := "([I)V" } : Jvm.MethodName)) ∈ wAll := w_of1 182 (by decide +kernel) rfl
theorem w183 : (Jvm.Cond.instanceMethod ({ cls := "CiteForge$Stack", name := "<init>", desc := "([I)V" } : Jvm.MethodName)) ∈ wAll := w_of1 183 (by decide +kernel) rfl
theorem w184 : (Jvm.Cond.code ({ cls := "CiteForge$Stack", name := "<init>", desc := "([I)V" } : Jvm.MethodName) prog_10_method_1_code (3 : Nat) (Option.none : Option Jvm.ClassFile.FieldType)) ∈ wAll := w_of1 184 (by decide +kernel) rfl
theorem w185 : (Jvm.Cond.methodLink "CiteForge$Stack" (3 : Nat) ({ cls := "java/lang/Object", name := "<init>", desc := "()V" } : Jvm.MethodName)) ∈ wAll := w_of1 185 (by decide +kernel) rfl
theorem w186 : (Jvm.Cond.classLink "CiteForge$Stack" (15 : Nat) "CiteForge$Value") ∈ wAll := w_of1 186 (by decide +kernel) rfl
theorem w188 : (Jvm.Cond.instantiable "CiteForge$Value" (3 : Nat)) ∈ wAll := w_of1 188 (by decide +kernel) rfl
theorem w189 : (Jvm.Cond.methodLink "CiteForge$Stack" (21 : Nat) ({ cls := "CiteForge$Value", name := "<init>", desc := "()V" } : Jvm.MethodName)) ∈ wAll := w_of1 189 (by decide +kernel) rfl
theorem w190 : (Jvm.Cond.instanceMethod ({ cls := "CiteForge$Value", name := "<init>", desc := "()V" } : Jvm.MethodName)) ∈ wAll := w_of1 190 (by decide +kernel) rfl
theorem w191 : (Jvm.Cond.code ({ cls := "CiteForge$Value", name := "<init>", desc := "()V" } : Jvm.MethodName) prog_12_method_1_code (1 : Nat) (Option.none : Option Jvm.ClassFile.FieldType)) ∈ wAll := w_of1 191 (by decide +kernel) rfl
theorem w192 : (Jvm.Cond.methodLink "CiteForge$Value" (3 : Nat) ({ cls := "java/lang/Object", name := "<init>", desc := "()V" } : Jvm.MethodName)) ∈ wAll := w_of1 192 (by decide +kernel) rfl
theorem w193 : (Jvm.Cond.classLink "CiteForge$Value" (9 : Nat) "CiteForge$Text") ∈ wAll := w_of1 193 (by decide +kernel) rfl
theorem w194 : (Jvm.Cond.methodLink "CiteForge$Value" (11 : Nat) ({ cls := "CiteForge$Text", name := "<init>", desc := "(I)V" } : Jvm.MethodName)) ∈ wAll := w_of1 194 (by decide +kernel) rfl
theorem w195 : (Jvm.Cond.fieldLink "CiteForge$Value" (20 : Nat) "CiteForge$Value" "kind" "I") ∈ wAll := w_of1 195 (by decide +kernel) rfl
theorem w196 : (Jvm.Cond.fieldLinkNest "CiteForge" (194 : Nat) "CiteForge$Value" "kind" "I" "CiteForge") ∈ nAll := n_of1 196 (by decide +kernel) rfl
theorem w197 : (Jvm.Cond.fieldLink "CiteForge$Value" (24 : Nat) "CiteForge$Value" "number" "I") ∈ wAll := w_of1 197 (by decide +kernel) rfl
theorem w198 : (Jvm.Cond.fieldLinkNest "CiteForge$Stack" (38 : Nat) "CiteForge$Value" "number" "I" "CiteForge") ∈ nAll := n_of1 198 (by decide +kernel) rfl
theorem w199 : (Jvm.Cond.fieldLinkNest "CiteForge" (200 : Nat) "CiteForge$Value" "number" "I" "CiteForge") ∈ nAll := n_of1 199 (by decide +kernel) rfl
theorem w200 : (Jvm.Cond.fieldLink "CiteForge$Value" (14 : Nat) "CiteForge$Value" "text" "LCiteForge$Text;") ∈ wAll := w_of1 200 (by decide +kernel) rfl
theorem w201 : (Jvm.Cond.fieldLinkNest "CiteForge$Stack" (46 : Nat) "CiteForge$Value" "text" "LCiteForge$Text;" "CiteForge") ∈ nAll := n_of1 201 (by decide +kernel) rfl
theorem w202 : (Jvm.Cond.fieldLinkNest "CiteForge" (203 : Nat) "CiteForge$Value" "text" "LCiteForge$Text;" "CiteForge") ∈ nAll := n_of1 202 (by decide +kernel) rfl
theorem w203 : (Jvm.Cond.lays "CiteForge$Value" "CiteForge$Value" "kind" "I") ∈ wAll := w_of1 203 (by decide +kernel) rfl
theorem w205 : (Jvm.Cond.lays "CiteForge$Value" "CiteForge$Value" "number" "I") ∈ wAll := w_of1 205 (by decide +kernel) rfl
theorem w207 : (Jvm.Cond.laysFinal "CiteForge$Value" "CiteForge$Value" "text" "LCiteForge$Text;") ∈ wAll := w_of1 207 (by decide +kernel) rfl
theorem w210 : (Jvm.Cond.fieldLink "CiteForge$Stack" (17 : Nat) "CiteForge$Stack" "values" "[LCiteForge$Value;") ∈ wAll := w_of1 210 (by decide +kernel) rfl
theorem w211 : (Jvm.Cond.fieldLink "CiteForge$Stack" (9 : Nat) "CiteForge$Stack" "warned" "[I") ∈ wAll := w_of1 211 (by decide +kernel) rfl
theorem w212 : (Jvm.Cond.fieldLink "CiteForge$Stack" (22 : Nat) "CiteForge$Stack" "size" "I") ∈ wAll := w_of1 212 (by decide +kernel) rfl
theorem w213 : (Jvm.Cond.laysFinal "CiteForge$Stack" "CiteForge$Stack" "values" "[LCiteForge$Value;") ∈ wAll := w_of1 213 (by decide +kernel) rfl
theorem w215 : (Jvm.Cond.laysFinal "CiteForge$Stack" "CiteForge$Stack" "warned" "[I") ∈ wAll := w_of1 215 (by decide +kernel) rfl
theorem w217 : (Jvm.Cond.lays "CiteForge$Stack" "CiteForge$Stack" "size" "I") ∈ wAll := w_of1 217 (by decide +kernel) rfl
theorem w220 : (Jvm.Cond.classLink "CiteForge" (45 : Nat) "CiteForge$Page") ∈ wAll := w_of1 220 (by decide +kernel) rfl
theorem w221 : (Jvm.Cond.instantiable "CiteForge$Page" (3 : Nat)) ∈ wAll := w_of1 221 (by decide +kernel) rfl
theorem w222 : (Jvm.Cond.methodLink "CiteForge" (47 : Nat) ({ cls := "CiteForge$Page", name := "<init>", desc := "()V" } : Jvm.MethodName)) ∈ wAll := w_of1 222 (by decide +kernel) rfl
theorem w223 : (Jvm.Cond.instanceMethod ({ cls := "CiteForge$Page", name := "<init>", desc := "()V" } : Jvm.MethodName)) ∈ wAll := w_of1 223 (by decide +kernel) rfl
theorem w224 : (Jvm.Cond.code ({ cls := "CiteForge$Page", name := "<init>", desc := "()V" } : Jvm.MethodName) prog_6_method_1_code (1 : Nat) (Option.none : Option Jvm.ClassFile.FieldType)) ∈ wAll := w_of1 224 (by decide +kernel) rfl
theorem w225 : (Jvm.Cond.methodLink "CiteForge$Page" (1 : Nat) ({ cls := "java/lang/Object", name := "<init>", desc := "()V" } : Jvm.MethodName)) ∈ wAll := w_of1 225 (by decide +kernel) rfl
theorem w226 : (Jvm.Cond.classLink "CiteForge$Page" (7 : Nat) "CiteForge$Text") ∈ wAll := w_of1 226 (by decide +kernel) rfl
theorem w227 : (Jvm.Cond.methodLink "CiteForge$Page" (11 : Nat) ({ cls := "CiteForge$Text", name := "<init>", desc := "(I)V" } : Jvm.MethodName)) ∈ wAll := w_of1 227 (by decide +kernel) rfl
theorem w228 : (Jvm.Cond.fieldLink "CiteForge$Page" (14 : Nat) "CiteForge$Page" "atHand" "LCiteForge$Text;") ∈ wAll := w_of1 228 (by decide +kernel) rfl
theorem w229 : (Jvm.Cond.fieldLink "CiteForge$Page" (18 : Nat) "CiteForge$Page" "kept" "[LCiteForge$Text;") ∈ wAll := w_of1 229 (by decide +kernel) rfl
theorem w230 : (Jvm.Cond.fieldLink "CiteForge$Page" (22 : Nat) "CiteForge$Page" "lines" "I") ∈ wAll := w_of1 230 (by decide +kernel) rfl
theorem w231 : (Jvm.Cond.laysFinal "CiteForge$Page" "CiteForge$Page" "atHand" "LCiteForge$Text;") ∈ wAll := w_of1 231 (by decide +kernel) rfl
theorem w233 : (Jvm.Cond.laysFinal "CiteForge$Page" "CiteForge$Page" "kept" "[LCiteForge$Text;") ∈ wAll := w_of1 233 (by decide +kernel) rfl
theorem w235 : (Jvm.Cond.lays "CiteForge$Page" "CiteForge$Page" "lines" "I") ∈ wAll := w_of1 235 (by decide +kernel) rfl
theorem w238 : (Jvm.Cond.classLink "CiteForge" (52 : Nat) "CiteForge$Machine") ∈ wAll := w_of1 238 (by decide +kernel) rfl
theorem w239 : (Jvm.Cond.instantiable "CiteForge$Machine" (17 : Nat)) ∈ wAll := w_of1 239 (by decide +kernel) rfl
theorem w240 : (Jvm.Cond.methodLink "CiteForge" (54 : Nat) ({ cls := "CiteForge$Machine", name := "<init>", desc := "(LCiteForge$Shelf;LCiteForge$Citations;LCiteForge$Stack;LCiteForge$Page;[I)V" } : Jvm.MethodName)) ∈ wAll := w_of2 0 (by decide +kernel) rfl
theorem w241 : (Jvm.Cond.instanceMethod ({ cls := "CiteForge$Machine", name := "<init>", desc := "(LCiteForge$Shelf;LCiteForge$Citations;LCiteForge$Stack;LCiteForge$Page;[I)V" } : Jvm.MethodName)) ∈ wAll := w_of2 1 (by decide +kernel) rfl
theorem w242 : (Jvm.Cond.code ({ cls := "CiteForge$Machine", name := "<init>", desc := "(LCiteForge$Shelf;LCiteForge$Citations;LCiteForge$Stack;LCiteForge$Page;[I)V" } : Jvm.MethodName) prog_5_method_1_code (6 : Nat) (Option.none : Option Jvm.ClassFile.FieldType)) ∈ wAll := w_of2 2 (by decide +kernel) rfl
theorem w243 : (Jvm.Cond.methodLink "CiteForge$Machine" (3 : Nat) ({ cls := "java/lang/Object", name := "<init>", desc := "()V" } : Jvm.MethodName)) ∈ wAll := w_of2 3 (by decide +kernel) rfl
theorem w244 : (Jvm.Cond.classLink "CiteForge$Machine" (31 : Nat) "CiteForge$People") ∈ wAll := w_of2 4 (by decide +kernel) rfl
theorem w245 : (Jvm.Cond.instantiable "CiteForge$People" (16 : Nat)) ∈ wAll := w_of2 5 (by decide +kernel) rfl
theorem w246 : (Jvm.Cond.methodLink "CiteForge$Machine" (33 : Nat) ({ cls := "CiteForge$People", name := "<init>", desc := "()V" } : Jvm.MethodName)) ∈ wAll := w_of2 6 (by decide +kernel) rfl
theorem w247 : (Jvm.Cond.instanceMethod ({ cls := "CiteForge$People", name := "<init>", desc := "()V" } : Jvm.MethodName)) ∈ wAll := w_of2 7 (by decide +kernel) rfl
theorem w248 : (Jvm.Cond.code ({ cls := "CiteForge$People", name := "<init>", desc := "()V" } : Jvm.MethodName) prog_7_method_1_code (1 : Nat) (Option.none : Option Jvm.ClassFile.FieldType)) ∈ wAll := w_of2 8 (by decide +kernel) rfl
theorem w249 : (Jvm.Cond.methodLink "CiteForge$People" (3 : Nat) ({ cls := "java/lang/Object", name := "<init>", desc := "()V" } : Jvm.MethodName)) ∈ wAll := w_of2 9 (by decide +kernel) rfl
theorem w250 : (Jvm.Cond.fieldLink "CiteForge$People" (51 : Nat) "CiteForge$People" "nameBegin" "I") ∈ wAll := w_of2 10 (by decide +kernel) rfl
theorem w251 : (Jvm.Cond.fieldLink "CiteForge$People" (55 : Nat) "CiteForge$People" "nameEnd" "I") ∈ wAll := w_of2 11 (by decide +kernel) rfl
theorem w252 : (Jvm.Cond.fieldLink "CiteForge$People" (9 : Nat) "CiteForge$People" "wordBegin" "[I") ∈ wAll := w_of2 12 (by decide +kernel) rfl
theorem w253 : (Jvm.Cond.fieldLink "CiteForge$People" (15 : Nat) "CiteForge$People" "wordEnd" "[I") ∈ wAll := w_of2 13 (by decide +kernel) rfl
theorem w254 : (Jvm.Cond.fieldLink "CiteForge$People" (18 : Nat) "CiteForge$People" "wordIsLow" "[Z") ∈ wAll := w_of2 14 (by decide +kernel) rfl
theorem w255 : (Jvm.Cond.fieldLink "CiteForge$People" (62 : Nat) "CiteForge$People" "words" "I") ∈ wAll := w_of2 15 (by decide +kernel) rfl
theorem w256 : (Jvm.Cond.fieldLink "CiteForge$People" (22 : Nat) "CiteForge$People" "partBegin" "[I") ∈ wAll := w_of2 16 (by decide +kernel) rfl
theorem w257 : (Jvm.Cond.fieldLink "CiteForge$People" (72 : Nat) "CiteForge$People" "parts" "I") ∈ wAll := w_of2 17 (by decide +kernel) rfl
theorem w258 : (Jvm.Cond.fieldLink "CiteForge$People" (101 : Nat) "CiteForge$People" "firstBegin" "I") ∈ wAll := w_of2 18 (by decide +kernel) rfl
theorem w259 : (Jvm.Cond.fieldLink "CiteForge$People" (104 : Nat) "CiteForge$People" "firstEnd" "I") ∈ wAll := w_of2 19 (by decide +kernel) rfl
theorem w260 : (Jvm.Cond.fieldLink "CiteForge$People" (107 : Nat) "CiteForge$People" "vonBegin" "I") ∈ wAll := w_of2 20 (by decide +kernel) rfl
theorem w261 : (Jvm.Cond.fieldLink "CiteForge$People" (113 : Nat) "CiteForge$People" "vonEnd" "I") ∈ wAll := w_of2 21 (by decide +kernel) rfl
theorem w262 : (Jvm.Cond.fieldLink "CiteForge$People" (116 : Nat) "CiteForge$People" "lastBegin" "I") ∈ wAll := w_of2 22 (by decide +kernel) rfl
theorem w263 : (Jvm.Cond.fieldLink "CiteForge$People" (119 : Nat) "CiteForge$People" "lastEnd" "I") ∈ wAll := w_of2 23 (by decide +kernel) rfl
theorem w264 : (Jvm.Cond.fieldLink "CiteForge$People" (122 : Nat) "CiteForge$People" "jrBegin" "I") ∈ wAll := w_of2 24 (by decide +kernel) rfl
theorem w265 : (Jvm.Cond.fieldLink "CiteForge$People" (125 : Nat) "CiteForge$People" "jrEnd" "I") ∈ wAll := w_of2 25 (by decide +kernel) rfl
theorem w266 : (Jvm.Cond.lays "CiteForge$People" "CiteForge$People" "nameBegin" "I") ∈ wAll := w_of2 26 (by decide +kernel) rfl
theorem w268 : (Jvm.Cond.lays "CiteForge$People" "CiteForge$People" "nameEnd" "I") ∈ wAll := w_of2 28 (by decide +kernel) rfl
theorem w270 : (Jvm.Cond.laysFinal "CiteForge$People" "CiteForge$People" "wordBegin" "[I") ∈ wAll := w_of2 30 (by decide +kernel) rfl
theorem w272 : (Jvm.Cond.laysFinal "CiteForge$People" "CiteForge$People" "wordEnd" "[I") ∈ wAll := w_of2 32 (by decide +kernel) rfl
theorem w274 : (Jvm.Cond.laysFinal "CiteForge$People" "CiteForge$People" "wordIsLow" "[Z") ∈ wAll := w_of2 34 (by decide +kernel) rfl
theorem w276 : (Jvm.Cond.lays "CiteForge$People" "CiteForge$People" "words" "I") ∈ wAll := w_of2 36 (by decide +kernel) rfl
theorem w278 : (Jvm.Cond.laysFinal "CiteForge$People" "CiteForge$People" "partBegin" "[I") ∈ wAll := w_of2 38 (by decide +kernel) rfl
theorem w280 : (Jvm.Cond.lays "CiteForge$People" "CiteForge$People" "parts" "I") ∈ wAll := w_of2 40 (by decide +kernel) rfl
theorem w282 : (Jvm.Cond.lays "CiteForge$People" "CiteForge$People" "firstBegin" "I") ∈ wAll := w_of2 42 (by decide +kernel) rfl
theorem w284 : (Jvm.Cond.lays "CiteForge$People" "CiteForge$People" "firstEnd" "I") ∈ wAll := w_of2 44 (by decide +kernel) rfl
theorem w286 : (Jvm.Cond.lays "CiteForge$People" "CiteForge$People" "vonBegin" "I") ∈ wAll := w_of2 46 (by decide +kernel) rfl
theorem w288 : (Jvm.Cond.lays "CiteForge$People" "CiteForge$People" "vonEnd" "I") ∈ wAll := w_of2 48 (by decide +kernel) rfl
theorem w290 : (Jvm.Cond.lays "CiteForge$People" "CiteForge$People" "lastBegin" "I") ∈ wAll := w_of2 50 (by decide +kernel) rfl
theorem w292 : (Jvm.Cond.lays "CiteForge$People" "CiteForge$People" "lastEnd" "I") ∈ wAll := w_of2 52 (by decide +kernel) rfl
theorem w294 : (Jvm.Cond.lays "CiteForge$People" "CiteForge$People" "jrBegin" "I") ∈ wAll := w_of2 54 (by decide +kernel) rfl
theorem w296 : (Jvm.Cond.lays "CiteForge$People" "CiteForge$People" "jrEnd" "I") ∈ wAll := w_of2 56 (by decide +kernel) rfl
theorem w299 : (Jvm.Cond.arrayClass Jvm.ClassFile.FieldType.boolean) ∈ wAll := w_of2 59 (by decide +kernel) rfl
theorem w300 : (Jvm.Cond.classLink "CiteForge$Machine" (51 : Nat) "CiteForge$Text") ∈ wAll := w_of2 60 (by decide +kernel) rfl
theorem w301 : (Jvm.Cond.methodLink "CiteForge$Machine" (53 : Nat) ({ cls := "CiteForge$Text", name := "<init>", desc := "(I)V" } : Jvm.MethodName)) ∈ wAll := w_of2 61 (by decide +kernel) rfl
theorem w302 : (Jvm.Cond.classLink "CiteForge$Machine" (66 : Nat) "CiteForge$Value") ∈ wAll := w_of2 62 (by decide +kernel) rfl
theorem w303 : (Jvm.Cond.methodLink "CiteForge$Machine" (68 : Nat) ({ cls := "CiteForge$Value", name := "<init>", desc := "()V" } : Jvm.MethodName)) ∈ wAll := w_of2 63 (by decide +kernel) rfl
theorem w304 : (Jvm.Cond.fieldLink "CiteForge$Machine" (9 : Nat) "CiteForge$Machine" "shelf" "LCiteForge$Shelf;") ∈ wAll := w_of2 64 (by decide +kernel) rfl
theorem w305 : (Jvm.Cond.fieldLink "CiteForge$Machine" (15 : Nat) "CiteForge$Machine" "citations" "LCiteForge$Citations;") ∈ wAll := w_of2 65 (by decide +kernel) rfl
theorem w306 : (Jvm.Cond.fieldLink "CiteForge$Machine" (19 : Nat) "CiteForge$Machine" "stack" "LCiteForge$Stack;") ∈ wAll := w_of2 66 (by decide +kernel) rfl
theorem w307 : (Jvm.Cond.fieldLink "CiteForge$Machine" (23 : Nat) "CiteForge$Machine" "page" "LCiteForge$Page;") ∈ wAll := w_of2 67 (by decide +kernel) rfl
theorem w308 : (Jvm.Cond.fieldLink "CiteForge$Machine" (27 : Nat) "CiteForge$Machine" "warned" "[I") ∈ wAll := w_of2 68 (by decide +kernel) rfl
theorem w309 : (Jvm.Cond.fieldLink "CiteForge$Machine" (34 : Nat) "CiteForge$Machine" "people" "LCiteForge$People;") ∈ wAll := w_of2 69 (by decide +kernel) rfl
theorem w310 : (Jvm.Cond.fieldLink "CiteForge$Machine" (38 : Nat) "CiteForge$Machine" "operations" "[I") ∈ wAll := w_of2 70 (by decide +kernel) rfl
theorem w311 : (Jvm.Cond.fieldLink "CiteForge$Machine" (41 : Nat) "CiteForge$Machine" "arguments" "[J") ∈ wAll := w_of2 71 (by decide +kernel) rfl
theorem w312 : (Jvm.Cond.fieldLink "CiteForge$Machine" (45 : Nat) "CiteForge$Machine" "sizes" "[I") ∈ wAll := w_of2 72 (by decide +kernel) rfl
theorem w313 : (Jvm.Cond.fieldLink "CiteForge$Machine" (48 : Nat) "CiteForge$Machine" "globals" "[I") ∈ wAll := w_of2 73 (by decide +kernel) rfl
theorem w314 : (Jvm.Cond.fieldLink "CiteForge$Machine" (56 : Nat) "CiteForge$Machine" "left" "LCiteForge$Text;") ∈ wAll := w_of2 74 (by decide +kernel) rfl
theorem w315 : (Jvm.Cond.fieldLink "CiteForge$Machine" (60 : Nat) "CiteForge$Machine" "right" "LCiteForge$Text;") ∈ wAll := w_of2 75 (by decide +kernel) rfl
theorem w316 : (Jvm.Cond.fieldLink "CiteForge$Machine" (63 : Nat) "CiteForge$Machine" "result" "LCiteForge$Text;") ∈ wAll := w_of2 76 (by decide +kernel) rfl
theorem w317 : (Jvm.Cond.fieldLink "CiteForge$Machine" (69 : Nat) "CiteForge$Machine" "first" "LCiteForge$Value;") ∈ wAll := w_of2 77 (by decide +kernel) rfl
theorem w318 : (Jvm.Cond.fieldLink "CiteForge$Machine" (73 : Nat) "CiteForge$Machine" "second" "LCiteForge$Value;") ∈ wAll := w_of2 78 (by decide +kernel) rfl
theorem w319 : (Jvm.Cond.fieldLink "CiteForge$Machine" (86 : Nat) "CiteForge$Machine" "atHand" "LCiteForge$Entry;") ∈ wAll := w_of2 79 (by decide +kernel) rfl
theorem w320 : (Jvm.Cond.fieldLink "CiteForge$Machine" (82 : Nat) "CiteForge$Machine" "done" "I") ∈ wAll := w_of2 80 (by decide +kernel) rfl
theorem w321 : (Jvm.Cond.laysFinal "CiteForge$Machine" "CiteForge$Machine" "shelf" "LCiteForge$Shelf;") ∈ wAll := w_of2 81 (by decide +kernel) rfl
theorem w323 : (Jvm.Cond.laysFinal "CiteForge$Machine" "CiteForge$Machine" "citations" "LCiteForge$Citations;") ∈ wAll := w_of2 83 (by decide +kernel) rfl
theorem w325 : (Jvm.Cond.laysFinal "CiteForge$Machine" "CiteForge$Machine" "stack" "LCiteForge$Stack;") ∈ wAll := w_of2 85 (by decide +kernel) rfl
theorem w327 : (Jvm.Cond.laysFinal "CiteForge$Machine" "CiteForge$Machine" "page" "LCiteForge$Page;") ∈ wAll := w_of2 87 (by decide +kernel) rfl
theorem w329 : (Jvm.Cond.laysFinal "CiteForge$Machine" "CiteForge$Machine" "warned" "[I") ∈ wAll := w_of2 89 (by decide +kernel) rfl
theorem w331 : (Jvm.Cond.laysFinal "CiteForge$Machine" "CiteForge$Machine" "people" "LCiteForge$People;") ∈ wAll := w_of2 91 (by decide +kernel) rfl
theorem w333 : (Jvm.Cond.laysFinal "CiteForge$Machine" "CiteForge$Machine" "operations" "[I") ∈ wAll := w_of2 93 (by decide +kernel) rfl
theorem w335 : (Jvm.Cond.laysFinal "CiteForge$Machine" "CiteForge$Machine" "arguments" "[J") ∈ wAll := w_of2 95 (by decide +kernel) rfl
theorem w337 : (Jvm.Cond.laysFinal "CiteForge$Machine" "CiteForge$Machine" "sizes" "[I") ∈ wAll := w_of2 97 (by decide +kernel) rfl
theorem w339 : (Jvm.Cond.laysFinal "CiteForge$Machine" "CiteForge$Machine" "globals" "[I") ∈ wAll := w_of2 99 (by decide +kernel) rfl
theorem w341 : (Jvm.Cond.laysFinal "CiteForge$Machine" "CiteForge$Machine" "left" "LCiteForge$Text;") ∈ wAll := w_of2 101 (by decide +kernel) rfl
theorem w343 : (Jvm.Cond.laysFinal "CiteForge$Machine" "CiteForge$Machine" "right" "LCiteForge$Text;") ∈ wAll := w_of2 103 (by decide +kernel) rfl
theorem w345 : (Jvm.Cond.laysFinal "CiteForge$Machine" "CiteForge$Machine" "result" "LCiteForge$Text;") ∈ wAll := w_of2 105 (by decide +kernel) rfl
theorem w347 : (Jvm.Cond.laysFinal "CiteForge$Machine" "CiteForge$Machine" "first" "LCiteForge$Value;") ∈ wAll := w_of2 107 (by decide +kernel) rfl
theorem w349 : (Jvm.Cond.laysFinal "CiteForge$Machine" "CiteForge$Machine" "second" "LCiteForge$Value;") ∈ wAll := w_of2 109 (by decide +kernel) rfl
theorem w351 : (Jvm.Cond.lays "CiteForge$Machine" "CiteForge$Machine" "atHand" "LCiteForge$Entry;") ∈ wAll := w_of2 111 (by decide +kernel) rfl
theorem w353 : (Jvm.Cond.lays "CiteForge$Machine" "CiteForge$Machine" "done" "I") ∈ wAll := w_of2 113 (by decide +kernel) rfl
theorem w356 : (Jvm.Cond.fieldLink "CiteForge" (9 : Nat) "CiteForge" "warned" "[I") ∈ wAll := w_of2 116 (by decide +kernel) rfl
theorem w357 : (Jvm.Cond.fieldLink "CiteForge" (18 : Nat) "CiteForge" "shelf" "LCiteForge$Shelf;") ∈ wAll := w_of2 117 (by decide +kernel) rfl
theorem w358 : (Jvm.Cond.fieldLink "CiteForge" (27 : Nat) "CiteForge" "reader" "LCiteForge$Reader;") ∈ wAll := w_of2 118 (by decide +kernel) rfl
theorem w359 : (Jvm.Cond.fieldLink "CiteForge" (34 : Nat) "CiteForge" "citations" "LCiteForge$Citations;") ∈ wAll := w_of2 119 (by decide +kernel) rfl
theorem w360 : (Jvm.Cond.fieldLink "CiteForge" (41 : Nat) "CiteForge" "stack" "LCiteForge$Stack;") ∈ wAll := w_of2 120 (by decide +kernel) rfl
theorem w361 : (Jvm.Cond.fieldLink "CiteForge" (48 : Nat) "CiteForge" "page" "LCiteForge$Page;") ∈ wAll := w_of2 121 (by decide +kernel) rfl
theorem w362 : (Jvm.Cond.fieldLink "CiteForge" (57 : Nat) "CiteForge" "machine" "LCiteForge$Machine;") ∈ wAll := w_of2 122 (by decide +kernel) rfl
theorem w363 : (Jvm.Cond.laysFinal "CiteForge" "CiteForge" "warned" "[I") ∈ wAll := w_of2 123 (by decide +kernel) rfl
theorem w365 : (Jvm.Cond.laysFinal "CiteForge" "CiteForge" "shelf" "LCiteForge$Shelf;") ∈ wAll := w_of2 125 (by decide +kernel) rfl
theorem w367 : (Jvm.Cond.laysFinal "CiteForge" "CiteForge" "reader" "LCiteForge$Reader;") ∈ wAll := w_of2 127 (by decide +kernel) rfl
theorem w369 : (Jvm.Cond.laysFinal "CiteForge" "CiteForge" "citations" "LCiteForge$Citations;") ∈ wAll := w_of2 129 (by decide +kernel) rfl
theorem w371 : (Jvm.Cond.laysFinal "CiteForge" "CiteForge" "stack" "LCiteForge$Stack;") ∈ wAll := w_of2 131 (by decide +kernel) rfl
theorem w373 : (Jvm.Cond.laysFinal "CiteForge" "CiteForge" "page" "LCiteForge$Page;") ∈ wAll := w_of2 133 (by decide +kernel) rfl
theorem w375 : (Jvm.Cond.laysFinal "CiteForge" "CiteForge" "machine" "LCiteForge$Machine;") ∈ wAll := w_of2 135 (by decide +kernel) rfl
theorem w378 : (Jvm.Cond.methodLink "CiteForgeLaw" (84 : Nat) ({ cls := "CiteForge", name := "erase", desc := "()I" } : Jvm.MethodName)) ∈ wAll := w_of2 138 (by decide +kernel) rfl
theorem w379 : (Jvm.Cond.instanceMethod ({ cls := "CiteForge", name := "erase", desc := "()I" } : Jvm.MethodName)) ∈ wAll := w_of2 139 (by decide +kernel) rfl
theorem w380 : (Jvm.Cond.selects "CiteForge" ({ cls := "CiteForge", name := "erase", desc := "()I" } : Jvm.MethodName) ({ cls := "CiteForge", name := "erase", desc := "()I" } : Jvm.MethodName)) ∈ wAll := w_of2 140 (by decide +kernel) rfl
theorem w381 : (Jvm.Cond.code ({ cls := "CiteForge", name := "erase", desc := "()I" } : Jvm.MethodName) prog_1_method_3_code (1 : Nat) (Option.some Jvm.ClassFile.FieldType.int)) ∈ wAll := w_of2 141 (by decide +kernel) rfl
theorem w382 : (Jvm.Cond.methodLink "CiteForge" (79 : Nat) ({ cls := "CiteForge$Reader", name := "dropSource", desc := "()I" } : Jvm.MethodName)) ∈ wAll := w_of2 142 (by decide +kernel) rfl
theorem w383 : (Jvm.Cond.instanceMethod ({ cls := "CiteForge$Reader", name := "dropSource", desc := "()I" } : Jvm.MethodName)) ∈ wAll := w_of2 143 (by decide +kernel) rfl
theorem w384 : (Jvm.Cond.selects "CiteForge$Reader" ({ cls := "CiteForge$Reader", name := "dropSource", desc := "()I" } : Jvm.MethodName) ({ cls := "CiteForge$Reader", name := "dropSource", desc := "()I" } : Jvm.MethodName)) ∈ wAll := w_of2 144 (by decide +kernel) rfl
theorem w385 : (Jvm.Cond.code ({ cls := "CiteForge$Reader", name := "dropSource", desc := "()I" } : Jvm.MethodName) prog_8_method_5_code (2 : Nat) (Option.some Jvm.ClassFile.FieldType.int)) ∈ wAll := w_of2 145 (by decide +kernel) rfl
theorem w386 : (Jvm.Cond.methodLink "CiteForge$Reader" (50 : Nat) ({ cls := "CiteForge$Text", name := "size", desc := "()I" } : Jvm.MethodName)) ∈ wAll := w_of2 146 (by decide +kernel) rfl
theorem w387 : (Jvm.Cond.instanceMethod ({ cls := "CiteForge$Text", name := "size", desc := "()I" } : Jvm.MethodName)) ∈ wAll := w_of2 147 (by decide +kernel) rfl
theorem w388 : (Jvm.Cond.selects "CiteForge$Text" ({ cls := "CiteForge$Text", name := "size", desc := "()I" } : Jvm.MethodName) ({ cls := "CiteForge$Text", name := "size", desc := "()I" } : Jvm.MethodName)) ∈ wAll := w_of2 148 (by decide +kernel) rfl
theorem w389 : (Jvm.Cond.code ({ cls := "CiteForge$Text", name := "size", desc := "()I" } : Jvm.MethodName) prog_11_method_2_code (1 : Nat) (Option.some Jvm.ClassFile.FieldType.int)) ∈ wAll := w_of2 149 (by decide +kernel) rfl
theorem w390 : (Jvm.Cond.methodLink "CiteForge$Reader" (58 : Nat) ({ cls := "CiteForge$Text", name := "reset", desc := "()V" } : Jvm.MethodName)) ∈ wAll := w_of2 150 (by decide +kernel) rfl
theorem w391 : (Jvm.Cond.instanceMethod ({ cls := "CiteForge$Text", name := "reset", desc := "()V" } : Jvm.MethodName)) ∈ wAll := w_of2 151 (by decide +kernel) rfl
theorem w392 : (Jvm.Cond.selects "CiteForge$Text" ({ cls := "CiteForge$Text", name := "reset", desc := "()V" } : Jvm.MethodName) ({ cls := "CiteForge$Text", name := "reset", desc := "()V" } : Jvm.MethodName)) ∈ wAll := w_of2 152 (by decide +kernel) rfl
theorem w393 : (Jvm.Cond.code ({ cls := "CiteForge$Text", name := "reset", desc := "()V" } : Jvm.MethodName) prog_11_method_6_code (1 : Nat) (Option.none : Option Jvm.ClassFile.FieldType)) ∈ wAll := w_of2 153 (by decide +kernel) rfl
theorem w394 : (Jvm.Cond.methodLink "CiteForgeLaw" (88 : Nat) ({ cls := "CiteForge", name := "read", desc := "()I" } : Jvm.MethodName)) ∈ wAll := w_of2 154 (by decide +kernel) rfl
theorem w395 : (Jvm.Cond.instanceMethod ({ cls := "CiteForge", name := "read", desc := "()I" } : Jvm.MethodName)) ∈ wAll := w_of2 155 (by decide +kernel) rfl
theorem w396 : (Jvm.Cond.selects "CiteForge" ({ cls := "CiteForge", name := "read", desc := "()I" } : Jvm.MethodName) ({ cls := "CiteForge", name := "read", desc := "()I" } : Jvm.MethodName)) ∈ wAll := w_of2 156 (by decide +kernel) rfl
theorem w397 : (Jvm.Cond.code ({ cls := "CiteForge", name := "read", desc := "()I" } : Jvm.MethodName) prog_1_method_4_code (2 : Nat) (Option.some Jvm.ClassFile.FieldType.int)) ∈ wAll := w_of2 157 (by decide +kernel) rfl
theorem w398 : (Jvm.Cond.methodLink "CiteForge" (83 : Nat) ({ cls := "CiteForge$Citations", name := "dropList", desc := "()V" } : Jvm.MethodName)) ∈ wAll := w_of2 158 (by decide +kernel) rfl
theorem w399 : (Jvm.Cond.instanceMethod ({ cls := "CiteForge$Citations", name := "dropList", desc := "()V" } : Jvm.MethodName)) ∈ wAll := w_of2 159 (by decide +kernel) rfl
theorem w400 : (Jvm.Cond.selects "CiteForge$Citations" ({ cls := "CiteForge$Citations", name := "dropList", desc := "()V" } : Jvm.MethodName) ({ cls := "CiteForge$Citations", name := "dropList", desc := "()V" } : Jvm.MethodName)) ∈ wAll := w_of2 160 (by decide +kernel) rfl
theorem w401 : (Jvm.Cond.code ({ cls := "CiteForge$Citations", name := "dropList", desc := "()V" } : Jvm.MethodName) prog_2_method_10_code (1 : Nat) (Option.none : Option Jvm.ClassFile.FieldType)) ∈ wAll := w_of2 161 (by decide +kernel) rfl
theorem w402 : (Jvm.Cond.methodLink "CiteForge" (86 : Nat) ({ cls := "CiteForge$Reader", name := "begin", desc := "()V" } : Jvm.MethodName)) ∈ wAll := w_of2 162 (by decide +kernel) rfl
theorem w403 : (Jvm.Cond.instanceMethod ({ cls := "CiteForge$Reader", name := "begin", desc := "()V" } : Jvm.MethodName)) ∈ wAll := w_of2 163 (by decide +kernel) rfl
theorem w404 : (Jvm.Cond.selects "CiteForge$Reader" ({ cls := "CiteForge$Reader", name := "begin", desc := "()V" } : Jvm.MethodName) ({ cls := "CiteForge$Reader", name := "begin", desc := "()V" } : Jvm.MethodName)) ∈ wAll := w_of2 164 (by decide +kernel) rfl
theorem w405 : (Jvm.Cond.code ({ cls := "CiteForge$Reader", name := "begin", desc := "()V" } : Jvm.MethodName) prog_8_method_6_code (1 : Nat) (Option.none : Option Jvm.ClassFile.FieldType)) ∈ wAll := w_of2 165 (by decide +kernel) rfl
theorem w406 : (Jvm.Cond.methodLink "CiteForge$Reader" (61 : Nat) ({ cls := "CiteForge$Shelf", name := "dropAll", desc := "()V" } : Jvm.MethodName)) ∈ wAll := w_of2 166 (by decide +kernel) rfl
theorem w407 : (Jvm.Cond.instanceMethod ({ cls := "CiteForge$Shelf", name := "dropAll", desc := "()V" } : Jvm.MethodName)) ∈ wAll := w_of2 167 (by decide +kernel) rfl
theorem w408 : (Jvm.Cond.selects "CiteForge$Shelf" ({ cls := "CiteForge$Shelf", name := "dropAll", desc := "()V" } : Jvm.MethodName) ({ cls := "CiteForge$Shelf", name := "dropAll", desc := "()V" } : Jvm.MethodName)) ∈ wAll := w_of2 168 (by decide +kernel) rfl
theorem w409 : (Jvm.Cond.code ({ cls := "CiteForge$Shelf", name := "dropAll", desc := "()V" } : Jvm.MethodName) prog_9_method_3_code (1 : Nat) (Option.none : Option Jvm.ClassFile.FieldType)) ∈ wAll := w_of2 169 (by decide +kernel) rfl
theorem w410 : (Jvm.Cond.methodLink "CiteForge" (89 : Nat) ({ cls := "CiteForge$Reader", name := "findItem", desc := "()Z" } : Jvm.MethodName)) ∈ wAll := w_of2 170 (by decide +kernel) rfl
theorem w411 : (Jvm.Cond.instanceMethod ({ cls := "CiteForge$Reader", name := "findItem", desc := "()Z" } : Jvm.MethodName)) ∈ wAll := w_of2 171 (by decide +kernel) rfl
theorem w412 : (Jvm.Cond.selects "CiteForge$Reader" ({ cls := "CiteForge$Reader", name := "findItem", desc := "()Z" } : Jvm.MethodName) ({ cls := "CiteForge$Reader", name := "findItem", desc := "()Z" } : Jvm.MethodName)) ∈ wAll := w_of2 172 (by decide +kernel) rfl
theorem w413 : (Jvm.Cond.code ({ cls := "CiteForge$Reader", name := "findItem", desc := "()Z" } : Jvm.MethodName) prog_8_method_7_code (2 : Nat) (Option.some Jvm.ClassFile.FieldType.boolean)) ∈ wAll := w_of2 173 (by decide +kernel) rfl
theorem w414 : (Jvm.Cond.methodLink "CiteForge$Reader" (76 : Nat) ({ cls := "CiteForge$Text", name := "at", desc := "(I)C" } : Jvm.MethodName)) ∈ wAll := w_of2 174 (by decide +kernel) rfl
theorem w415 : (Jvm.Cond.instanceMethod ({ cls := "CiteForge$Text", name := "at", desc := "(I)C" } : Jvm.MethodName)) ∈ wAll := w_of2 175 (by decide +kernel) rfl
theorem w416 : (Jvm.Cond.selects "CiteForge$Text" ({ cls := "CiteForge$Text", name := "at", desc := "(I)C" } : Jvm.MethodName) ({ cls := "CiteForge$Text", name := "at", desc := "(I)C" } : Jvm.MethodName)) ∈ wAll := w_of2 176 (by decide +kernel) rfl
theorem w417 : (Jvm.Cond.code ({ cls := "CiteForge$Text", name := "at", desc := "(I)C" } : Jvm.MethodName) prog_11_method_4_code (2 : Nat) (Option.some Jvm.ClassFile.FieldType.char)) ∈ wAll := w_of2 177 (by decide +kernel) rfl
theorem w418 : (Jvm.Cond.methodLink "CiteForge" (93 : Nat) ({ cls := "CiteForge$Reader", name := "takeItem", desc := "()Z" } : Jvm.MethodName)) ∈ wAll := w_of2 178 (by decide +kernel) rfl
theorem w419 : (Jvm.Cond.instanceMethod ({ cls := "CiteForge$Reader", name := "takeItem", desc := "()Z" } : Jvm.MethodName)) ∈ wAll := w_of2 179 (by decide +kernel) rfl
theorem w420 : (Jvm.Cond.selects "CiteForge$Reader" ({ cls := "CiteForge$Reader", name := "takeItem", desc := "()Z" } : Jvm.MethodName) ({ cls := "CiteForge$Reader", name := "takeItem", desc := "()Z" } : Jvm.MethodName)) ∈ wAll := w_of2 180 (by decide +kernel) rfl
theorem w421 : (Jvm.Cond.code ({ cls := "CiteForge$Reader", name := "takeItem", desc := "()Z" } : Jvm.MethodName) prog_8_method_9_code (3 : Nat) (Option.some Jvm.ClassFile.FieldType.boolean)) ∈ wAll := w_of2 181 (by decide +kernel) rfl
theorem w422 : (Jvm.Cond.methodLink "CiteForge$Reader" (80 : Nat) ({ cls := "CiteForge$Reader", name := "takeWord", desc := "()J" } : Jvm.MethodName)) ∈ wAll := w_of2 182 (by decide +kernel) rfl
theorem w424 : (Jvm.Cond.instanceMethod ({ cls := "CiteForge$Reader", name := "takeWord", desc := "()J" } : Jvm.MethodName)) ∈ wAll := w_of2 184 (by decide +kernel) rfl
theorem w425 : (Jvm.Cond.code ({ cls := "CiteForge$Reader", name := "takeWord", desc := "()J" } : Jvm.MethodName) prog_8_method_19_code (4 : Nat) (Option.some Jvm.ClassFile.FieldType.long)) ∈ wAll := w_of2 185 (by decide +kernel) rfl
theorem w426 : (Jvm.Cond.methodLink "CiteForge$Reader" (137 : Nat) ({ cls := "CiteForge$Reader", name := "passBlanks", desc := "()V" } : Jvm.MethodName)) ∈ wAll := w_of2 186 (by decide +kernel) rfl
theorem w428 : (Jvm.Cond.instanceMethod ({ cls := "CiteForge$Reader", name := "passBlanks", desc := "()V" } : Jvm.MethodName)) ∈ wAll := w_of2 188 (by decide +kernel) rfl
theorem w429 : (Jvm.Cond.code ({ cls := "CiteForge$Reader", name := "passBlanks", desc := "()V" } : Jvm.MethodName) prog_8_method_21_code (1 : Nat) (Option.none : Option Jvm.ClassFile.FieldType)) ∈ wAll := w_of2 189 (by decide +kernel) rfl
theorem w430 : (Jvm.Cond.methodLinkNest "CiteForge$Reader" (180 : Nat) ({ cls := "CiteForge", name := "isBlank", desc := "(C)Z" } : Jvm.MethodName) "CiteForge") ∈ nAll := n_of2 190 (by decide +kernel) rfl
theorem w431 : (Jvm.Cond.static ({ cls := "CiteForge", name := "isBlank", desc := "(C)Z" } : Jvm.MethodName)) ∈ wAll := w_of2 191 (by decide +kernel) rfl
theorem w432 : (Jvm.Cond.code ({ cls := "CiteForge", name := "isBlank", desc := "(C)Z" } : Jvm.MethodName) prog_1_method_26_code (1 : Nat) (Option.some Jvm.ClassFile.FieldType.boolean)) ∈ wAll := w_of2 192 (by decide +kernel) rfl
theorem w433 : (Jvm.Cond.methodLinkNest "CiteForge$Reader" (173 : Nat) ({ cls := "CiteForge", name := "isWordCharacter", desc := "(C)Z" } : Jvm.MethodName) "CiteForge") ∈ nAll := n_of2 193 (by decide +kernel) rfl
theorem w434 : (Jvm.Cond.static ({ cls := "CiteForge", name := "isWordCharacter", desc := "(C)Z" } : Jvm.MethodName)) ∈ wAll := w_of2 194 (by decide +kernel) rfl
theorem w435 : (Jvm.Cond.code ({ cls := "CiteForge", name := "isWordCharacter", desc := "(C)Z" } : Jvm.MethodName) prog_1_method_28_code (1 : Nat) (Option.some Jvm.ClassFile.FieldType.boolean)) ∈ wAll := w_of2 195 (by decide +kernel) rfl
theorem w436 : (Jvm.Cond.methodLink "CiteForge" (225 : Nat) ({ cls := "CiteForge", name := "isLetter", desc := "(C)Z" } : Jvm.MethodName)) ∈ wAll := w_of2 196 (by decide +kernel) rfl
theorem w437 : (Jvm.Cond.static ({ cls := "CiteForge", name := "isLetter", desc := "(C)Z" } : Jvm.MethodName)) ∈ wAll := w_of2 197 (by decide +kernel) rfl
theorem w438 : (Jvm.Cond.code ({ cls := "CiteForge", name := "isLetter", desc := "(C)Z" } : Jvm.MethodName) prog_1_method_24_code (1 : Nat) (Option.some Jvm.ClassFile.FieldType.boolean)) ∈ wAll := w_of2 198 (by decide +kernel) rfl
theorem w439 : (Jvm.Cond.methodLink "CiteForge" (229 : Nat) ({ cls := "CiteForge", name := "isDigit", desc := "(C)Z" } : Jvm.MethodName)) ∈ wAll := w_of2 199 (by decide +kernel) rfl
theorem w440 : (Jvm.Cond.static ({ cls := "CiteForge", name := "isDigit", desc := "(C)Z" } : Jvm.MethodName)) ∈ wAll := w_of2 200 (by decide +kernel) rfl
theorem w441 : (Jvm.Cond.code ({ cls := "CiteForge", name := "isDigit", desc := "(C)Z" } : Jvm.MethodName) prog_1_method_25_code (1 : Nat) (Option.some Jvm.ClassFile.FieldType.boolean)) ∈ wAll := w_of2 201 (by decide +kernel) rfl
theorem w442 : (Jvm.Cond.methodLinkNest "CiteForge$Reader" (176 : Nat) ({ cls := "CiteForge", name := "smallOf", desc := "(C)C" } : Jvm.MethodName) "CiteForge") ∈ nAll := n_of2 202 (by decide +kernel) rfl
theorem w443 : (Jvm.Cond.static ({ cls := "CiteForge", name := "smallOf", desc := "(C)C" } : Jvm.MethodName)) ∈ wAll := w_of2 203 (by decide +kernel) rfl
theorem w444 : (Jvm.Cond.code ({ cls := "CiteForge", name := "smallOf", desc := "(C)C" } : Jvm.MethodName) prog_1_method_30_code (1 : Nat) (Option.some Jvm.ClassFile.FieldType.char)) ∈ wAll := w_of2 204 (by decide +kernel) rfl
theorem w445 : (Jvm.Cond.methodLink "CiteForge" (232 : Nat) ({ cls := "CiteForge", name := "isCapital", desc := "(C)Z" } : Jvm.MethodName)) ∈ wAll := w_of2 205 (by decide +kernel) rfl
theorem w446 : (Jvm.Cond.static ({ cls := "CiteForge", name := "isCapital", desc := "(C)Z" } : Jvm.MethodName)) ∈ wAll := w_of2 206 (by decide +kernel) rfl
theorem w447 : (Jvm.Cond.code ({ cls := "CiteForge", name := "isCapital", desc := "(C)Z" } : Jvm.MethodName) prog_1_method_22_code (1 : Nat) (Option.some Jvm.ClassFile.FieldType.boolean)) ∈ wAll := w_of2 207 (by decide +kernel) rfl
theorem w448 : (Jvm.Cond.methodLink "CiteForge$Reader" (84 : Nat) ({ cls := "CiteForge$Reader", name := "takeSign", desc := "(C)Z" } : Jvm.MethodName)) ∈ wAll := w_of2 208 (by decide +kernel) rfl
theorem w450 : (Jvm.Cond.instanceMethod ({ cls := "CiteForge$Reader", name := "takeSign", desc := "(C)Z" } : Jvm.MethodName)) ∈ wAll := w_of2 210 (by decide +kernel) rfl
theorem w451 : (Jvm.Cond.code ({ cls := "CiteForge$Reader", name := "takeSign", desc := "(C)Z" } : Jvm.MethodName) prog_8_method_20_code (2 : Nat) (Option.some Jvm.ClassFile.FieldType.boolean)) ∈ wAll := w_of2 211 (by decide +kernel) rfl
theorem w452 : (Jvm.Cond.constantLong "CiteForge$Reader" (88 : Nat) (32772479205076835 : Int64)) ∈ wAll := w_of2 212 (by decide +kernel) rfl
theorem w453 : (Jvm.Cond.constantLong "CiteForge$Reader" (90 : Nat) (113723913172083 : Int64)) ∈ wAll := w_of2 213 (by decide +kernel) rfl
theorem w454 : (Jvm.Cond.methodLink "CiteForge$Reader" (92 : Nat) ({ cls := "CiteForge$Reader", name := "takeString", desc := "()Z" } : Jvm.MethodName)) ∈ wAll := w_of2 214 (by decide +kernel) rfl
theorem w456 : (Jvm.Cond.instanceMethod ({ cls := "CiteForge$Reader", name := "takeString", desc := "()Z" } : Jvm.MethodName)) ∈ wAll := w_of2 216 (by decide +kernel) rfl
theorem w457 : (Jvm.Cond.code ({ cls := "CiteForge$Reader", name := "takeString", desc := "()Z" } : Jvm.MethodName) prog_8_method_10_code (3 : Nat) (Option.some Jvm.ClassFile.FieldType.boolean)) ∈ wAll := w_of2 217 (by decide +kernel) rfl
theorem w458 : (Jvm.Cond.methodLink "CiteForge$Reader" (100 : Nat) ({ cls := "CiteForge$Reader", name := "takeValue", desc := "()Z" } : Jvm.MethodName)) ∈ wAll := w_of2 218 (by decide +kernel) rfl
theorem w460 : (Jvm.Cond.instanceMethod ({ cls := "CiteForge$Reader", name := "takeValue", desc := "()Z" } : Jvm.MethodName)) ∈ wAll := w_of2 220 (by decide +kernel) rfl
theorem w461 : (Jvm.Cond.code ({ cls := "CiteForge$Reader", name := "takeValue", desc := "()Z" } : Jvm.MethodName) prog_8_method_12_code (3 : Nat) (Option.some Jvm.ClassFile.FieldType.boolean)) ∈ wAll := w_of2 221 (by decide +kernel) rfl
theorem w462 : (Jvm.Cond.methodLink "CiteForge$Reader" (131 : Nat) ({ cls := "CiteForge$Reader", name := "takePiece", desc := "()Z" } : Jvm.MethodName)) ∈ wAll := w_of2 222 (by decide +kernel) rfl
theorem w464 : (Jvm.Cond.instanceMethod ({ cls := "CiteForge$Reader", name := "takePiece", desc := "()Z" } : Jvm.MethodName)) ∈ wAll := w_of2 224 (by decide +kernel) rfl
theorem w465 : (Jvm.Cond.code ({ cls := "CiteForge$Reader", name := "takePiece", desc := "()Z" } : Jvm.MethodName) prog_8_method_13_code (4 : Nat) (Option.some Jvm.ClassFile.FieldType.boolean)) ∈ wAll := w_of2 225 (by decide +kernel) rfl
theorem w466 : (Jvm.Cond.methodLink "CiteForge$Reader" (140 : Nat) ({ cls := "CiteForge$Reader", name := "takeBraced", desc := "()Z" } : Jvm.MethodName)) ∈ wAll := w_of2 226 (by decide +kernel) rfl
theorem w468 : (Jvm.Cond.instanceMethod ({ cls := "CiteForge$Reader", name := "takeBraced", desc := "()Z" } : Jvm.MethodName)) ∈ wAll := w_of2 228 (by decide +kernel) rfl
theorem w469 : (Jvm.Cond.code ({ cls := "CiteForge$Reader", name := "takeBraced", desc := "()Z" } : Jvm.MethodName) prog_8_method_14_code (3 : Nat) (Option.some Jvm.ClassFile.FieldType.boolean)) ∈ wAll := w_of2 229 (by decide +kernel) rfl
theorem w470 : (Jvm.Cond.methodLinkNest "CiteForge$Reader" (155 : Nat) ({ cls := "CiteForge", name := "levelBehind", desc := "(IC)I" } : Jvm.MethodName) "CiteForge") ∈ nAll := n_of2 230 (by decide +kernel) rfl
theorem w471 : (Jvm.Cond.static ({ cls := "CiteForge", name := "levelBehind", desc := "(IC)I" } : Jvm.MethodName)) ∈ wAll := w_of2 231 (by decide +kernel) rfl
theorem w472 : (Jvm.Cond.code ({ cls := "CiteForge", name := "levelBehind", desc := "(IC)I" } : Jvm.MethodName) prog_1_method_32_code (2 : Nat) (Option.some Jvm.ClassFile.FieldType.int)) ∈ wAll := w_of2 232 (by decide +kernel) rfl
theorem w473 : (Jvm.Cond.methodLink "CiteForge$Reader" (159 : Nat) ({ cls := "CiteForge$Reader", name := "setPiece", desc := "(II)V" } : Jvm.MethodName)) ∈ wAll := w_of2 233 (by decide +kernel) rfl
theorem w475 : (Jvm.Cond.instanceMethod ({ cls := "CiteForge$Reader", name := "setPiece", desc := "(II)V" } : Jvm.MethodName)) ∈ wAll := w_of2 235 (by decide +kernel) rfl
theorem w476 : (Jvm.Cond.code ({ cls := "CiteForge$Reader", name := "setPiece", desc := "(II)V" } : Jvm.MethodName) prog_8_method_18_code (3 : Nat) (Option.none : Option Jvm.ClassFile.FieldType)) ∈ wAll := w_of2 236 (by decide +kernel) rfl
theorem w477 : (Jvm.Cond.methodLink "CiteForge$Reader" (143 : Nat) ({ cls := "CiteForge$Reader", name := "takeQuoted", desc := "()Z" } : Jvm.MethodName)) ∈ wAll := w_of2 237 (by decide +kernel) rfl
theorem w479 : (Jvm.Cond.instanceMethod ({ cls := "CiteForge$Reader", name := "takeQuoted", desc := "()Z" } : Jvm.MethodName)) ∈ wAll := w_of2 239 (by decide +kernel) rfl
theorem w480 : (Jvm.Cond.code ({ cls := "CiteForge$Reader", name := "takeQuoted", desc := "()Z" } : Jvm.MethodName) prog_8_method_15_code (4 : Nat) (Option.some Jvm.ClassFile.FieldType.boolean)) ∈ wAll := w_of3 0 (by decide +kernel) rfl
theorem w481 : (Jvm.Cond.methodLinkNest "CiteForge$Reader" (146 : Nat) ({ cls := "CiteForge", name := "isDigit", desc := "(C)Z" } : Jvm.MethodName) "CiteForge") ∈ nAll := n_of3 1 (by decide +kernel) rfl
theorem w482 : (Jvm.Cond.methodLink "CiteForge$Reader" (149 : Nat) ({ cls := "CiteForge$Reader", name := "takeDigits", desc := "()V" } : Jvm.MethodName)) ∈ wAll := w_of3 2 (by decide +kernel) rfl
theorem w484 : (Jvm.Cond.instanceMethod ({ cls := "CiteForge$Reader", name := "takeDigits", desc := "()V" } : Jvm.MethodName)) ∈ wAll := w_of3 4 (by decide +kernel) rfl
theorem w485 : (Jvm.Cond.code ({ cls := "CiteForge$Reader", name := "takeDigits", desc := "()V" } : Jvm.MethodName) prog_8_method_16_code (3 : Nat) (Option.none : Option Jvm.ClassFile.FieldType)) ∈ wAll := w_of3 5 (by decide +kernel) rfl
theorem w486 : (Jvm.Cond.methodLink "CiteForge$Reader" (152 : Nat) ({ cls := "CiteForge$Reader", name := "takeMeaning", desc := "(J)V" } : Jvm.MethodName)) ∈ wAll := w_of3 6 (by decide +kernel) rfl
theorem w488 : (Jvm.Cond.instanceMethod ({ cls := "CiteForge$Reader", name := "takeMeaning", desc := "(J)V" } : Jvm.MethodName)) ∈ wAll := w_of3 8 (by decide +kernel) rfl
theorem w489 : (Jvm.Cond.code ({ cls := "CiteForge$Reader", name := "takeMeaning", desc := "(J)V" } : Jvm.MethodName) prog_8_method_17_code (4 : Nat) (Option.none : Option Jvm.ClassFile.FieldType)) ∈ wAll := w_of3 9 (by decide +kernel) rfl
theorem w490 : (Jvm.Cond.methodLink "CiteForge$Reader" (163 : Nat) ({ cls := "CiteForge$Reader", name := "findString", desc := "(J)I" } : Jvm.MethodName)) ∈ wAll := w_of3 10 (by decide +kernel) rfl
theorem w492 : (Jvm.Cond.instanceMethod ({ cls := "CiteForge$Reader", name := "findString", desc := "(J)I" } : Jvm.MethodName)) ∈ wAll := w_of3 12 (by decide +kernel) rfl
theorem w493 : (Jvm.Cond.code ({ cls := "CiteForge$Reader", name := "findString", desc := "(J)I" } : Jvm.MethodName) prog_8_method_24_code (4 : Nat) (Option.some Jvm.ClassFile.FieldType.int)) ∈ wAll := w_of3 13 (by decide +kernel) rfl
theorem w494 : (Jvm.Cond.methodLink "CiteForge$Reader" (134 : Nat) ({ cls := "CiteForge$Reader", name := "addPiece", desc := "()V" } : Jvm.MethodName)) ∈ wAll := w_of3 14 (by decide +kernel) rfl
theorem w496 : (Jvm.Cond.instanceMethod ({ cls := "CiteForge$Reader", name := "addPiece", desc := "()V" } : Jvm.MethodName)) ∈ wAll := w_of3 16 (by decide +kernel) rfl
theorem w497 : (Jvm.Cond.code ({ cls := "CiteForge$Reader", name := "addPiece", desc := "()V" } : Jvm.MethodName) prog_8_method_22_code (2 : Nat) (Option.none : Option Jvm.ClassFile.FieldType)) ∈ wAll := w_of3 17 (by decide +kernel) rfl
theorem w498 : (Jvm.Cond.methodLink "CiteForge$Reader" (183 : Nat) ({ cls := "CiteForge$Reader", name := "addToValue", desc := "(C)V" } : Jvm.MethodName)) ∈ wAll := w_of3 18 (by decide +kernel) rfl
theorem w500 : (Jvm.Cond.instanceMethod ({ cls := "CiteForge$Reader", name := "addToValue", desc := "(C)V" } : Jvm.MethodName)) ∈ wAll := w_of3 20 (by decide +kernel) rfl
theorem w501 : (Jvm.Cond.code ({ cls := "CiteForge$Reader", name := "addToValue", desc := "(C)V" } : Jvm.MethodName) prog_8_method_23_code (2 : Nat) (Option.none : Option Jvm.ClassFile.FieldType)) ∈ wAll := w_of3 21 (by decide +kernel) rfl
theorem w502 : (Jvm.Cond.methodLink "CiteForge$Reader" (54 : Nat) ({ cls := "CiteForge$Text", name := "add", desc := "(C)V" } : Jvm.MethodName)) ∈ wAll := w_of3 22 (by decide +kernel) rfl
theorem w503 : (Jvm.Cond.instanceMethod ({ cls := "CiteForge$Text", name := "add", desc := "(C)V" } : Jvm.MethodName)) ∈ wAll := w_of3 23 (by decide +kernel) rfl
theorem w504 : (Jvm.Cond.selects "CiteForge$Text" ({ cls := "CiteForge$Text", name := "add", desc := "(C)V" } : Jvm.MethodName) ({ cls := "CiteForge$Text", name := "add", desc := "(C)V" } : Jvm.MethodName)) ∈ wAll := w_of3 24 (by decide +kernel) rfl
theorem w505 : (Jvm.Cond.code ({ cls := "CiteForge$Text", name := "add", desc := "(C)V" } : Jvm.MethodName) prog_11_method_7_code (2 : Nat) (Option.none : Option Jvm.ClassFile.FieldType)) ∈ wAll := w_of3 25 (by decide +kernel) rfl
theorem w506 : (Jvm.Cond.methodLink "CiteForge$Reader" (186 : Nat) ({ cls := "CiteForge$Text", name := "isFull", desc := "()Z" } : Jvm.MethodName)) ∈ wAll := w_of3 26 (by decide +kernel) rfl
theorem w507 : (Jvm.Cond.instanceMethod ({ cls := "CiteForge$Text", name := "isFull", desc := "()Z" } : Jvm.MethodName)) ∈ wAll := w_of3 27 (by decide +kernel) rfl
theorem w508 : (Jvm.Cond.selects "CiteForge$Text" ({ cls := "CiteForge$Text", name := "isFull", desc := "()Z" } : Jvm.MethodName) ({ cls := "CiteForge$Text", name := "isFull", desc := "()Z" } : Jvm.MethodName)) ∈ wAll := w_of3 28 (by decide +kernel) rfl
theorem w509 : (Jvm.Cond.code ({ cls := "CiteForge$Text", name := "isFull", desc := "()Z" } : Jvm.MethodName) prog_11_method_5_code (1 : Nat) (Option.some Jvm.ClassFile.FieldType.boolean)) ∈ wAll := w_of3 29 (by decide +kernel) rfl
theorem w510 : (Jvm.Cond.methodLink "CiteForge$Reader" (103 : Nat) ({ cls := "CiteForge$Reader", name := "keepString", desc := "(J)V" } : Jvm.MethodName)) ∈ wAll := w_of3 30 (by decide +kernel) rfl
theorem w512 : (Jvm.Cond.instanceMethod ({ cls := "CiteForge$Reader", name := "keepString", desc := "(J)V" } : Jvm.MethodName)) ∈ wAll := w_of3 32 (by decide +kernel) rfl
theorem w513 : (Jvm.Cond.code ({ cls := "CiteForge$Reader", name := "keepString", desc := "(J)V" } : Jvm.MethodName) prog_8_method_25_code (4 : Nat) (Option.none : Option Jvm.ClassFile.FieldType)) ∈ wAll := w_of3 33 (by decide +kernel) rfl
theorem w514 : (Jvm.Cond.methodLink "CiteForge$Reader" (189 : Nat) ({ cls := "CiteForge$Text", name := "setTo", desc := "(LCiteForge$Text;)V" } : Jvm.MethodName)) ∈ wAll := w_of3 34 (by decide +kernel) rfl
theorem w515 : (Jvm.Cond.instanceMethod ({ cls := "CiteForge$Text", name := "setTo", desc := "(LCiteForge$Text;)V" } : Jvm.MethodName)) ∈ wAll := w_of3 35 (by decide +kernel) rfl
theorem w516 : (Jvm.Cond.selects "CiteForge$Text" ({ cls := "CiteForge$Text", name := "setTo", desc := "(LCiteForge$Text;)V" } : Jvm.MethodName) ({ cls := "CiteForge$Text", name := "setTo", desc := "(LCiteForge$Text;)V" } : Jvm.MethodName)) ∈ wAll := w_of3 36 (by decide +kernel) rfl
theorem w517 : (Jvm.Cond.code ({ cls := "CiteForge$Text", name := "setTo", desc := "(LCiteForge$Text;)V" } : Jvm.MethodName) prog_11_method_9_code (2 : Nat) (Option.none : Option Jvm.ClassFile.FieldType)) ∈ wAll := w_of3 37 (by decide +kernel) rfl
theorem w518 : (Jvm.Cond.methodLink "CiteForge$Text" (25 : Nat) ({ cls := "java/lang/Math", name := "min", desc := "(II)I" } : Jvm.MethodName)) ∈ wAll := w_of3 38 (by decide +kernel) rfl
theorem w519 : (Jvm.Cond.static ({ cls := "java/lang/Math", name := "min", desc := "(II)I" } : Jvm.MethodName)) ∈ wAll := w_of3 39 (by decide +kernel) rfl
theorem w520 : (Jvm.Cond.code ({ cls := "java/lang/Math", name := "min", desc := "(II)I" } : Jvm.MethodName) prog_19_method_69_code (2 : Nat) (Option.some Jvm.ClassFile.FieldType.int)) ∈ wAll := w_of3 40 (by decide +kernel) rfl
theorem w524 : (Jvm.Cond.methodLink "CiteForge$Reader" (96 : Nat) ({ cls := "CiteForge$Reader", name := "takeEntry", desc := "(J)Z" } : Jvm.MethodName)) ∈ wAll := w_of3 44 (by decide +kernel) rfl
theorem w526 : (Jvm.Cond.instanceMethod ({ cls := "CiteForge$Reader", name := "takeEntry", desc := "(J)Z" } : Jvm.MethodName)) ∈ wAll := w_of3 46 (by decide +kernel) rfl
theorem w527 : (Jvm.Cond.code ({ cls := "CiteForge$Reader", name := "takeEntry", desc := "(J)Z" } : Jvm.MethodName) prog_8_method_11_code (10 : Nat) (Option.some Jvm.ClassFile.FieldType.boolean)) ∈ wAll := w_of3 47 (by decide +kernel) rfl
theorem w528 : (Jvm.Cond.methodLink "CiteForge$Reader" (107 : Nat) ({ cls := "CiteForge$Shelf", name := "draft", desc := "()LCiteForge$Entry;" } : Jvm.MethodName)) ∈ wAll := w_of3 48 (by decide +kernel) rfl
theorem w529 : (Jvm.Cond.instanceMethod ({ cls := "CiteForge$Shelf", name := "draft", desc := "()LCiteForge$Entry;" } : Jvm.MethodName)) ∈ wAll := w_of3 49 (by decide +kernel) rfl
theorem w530 : (Jvm.Cond.selects "CiteForge$Shelf" ({ cls := "CiteForge$Shelf", name := "draft", desc := "()LCiteForge$Entry;" } : Jvm.MethodName) ({ cls := "CiteForge$Shelf", name := "draft", desc := "()LCiteForge$Entry;" } : Jvm.MethodName)) ∈ wAll := w_of3 50 (by decide +kernel) rfl
theorem w531 : (Jvm.Cond.code ({ cls := "CiteForge$Shelf", name := "draft", desc := "()LCiteForge$Entry;" } : Jvm.MethodName) prog_9_method_5_code (1 : Nat) (Option.some (Jvm.ClassFile.FieldType.object "CiteForge$Entry"))) ∈ wAll := w_of3 51 (by decide +kernel) rfl
theorem w532 : (Jvm.Cond.methodLink "CiteForge$Reader" (111 : Nat) ({ cls := "CiteForge$Entry", name := "begin", desc := "(JJ)V" } : Jvm.MethodName)) ∈ wAll := w_of3 52 (by decide +kernel) rfl
theorem w533 : (Jvm.Cond.instanceMethod ({ cls := "CiteForge$Entry", name := "begin", desc := "(JJ)V" } : Jvm.MethodName)) ∈ wAll := w_of3 53 (by decide +kernel) rfl
theorem w534 : (Jvm.Cond.selects "CiteForge$Entry" ({ cls := "CiteForge$Entry", name := "begin", desc := "(JJ)V" } : Jvm.MethodName) ({ cls := "CiteForge$Entry", name := "begin", desc := "(JJ)V" } : Jvm.MethodName)) ∈ wAll := w_of3 54 (by decide +kernel) rfl
theorem w535 : (Jvm.Cond.code ({ cls := "CiteForge$Entry", name := "begin", desc := "(JJ)V" } : Jvm.MethodName) prog_4_method_2_code (5 : Nat) (Option.none : Option Jvm.ClassFile.FieldType)) ∈ wAll := w_of3 55 (by decide +kernel) rfl
theorem w536 : (Jvm.Cond.methodLink "CiteForge$Entry" (42 : Nat) ({ cls := "CiteForge$Text", name := "reset", desc := "()V" } : Jvm.MethodName)) ∈ wAll := w_of3 56 (by decide +kernel) rfl
theorem w537 : (Jvm.Cond.methodLink "CiteForge$Reader" (117 : Nat) ({ cls := "CiteForge$Entry", name := "addField", desc := "(JLCiteForge$Text;)V" } : Jvm.MethodName)) ∈ wAll := w_of3 57 (by decide +kernel) rfl
theorem w538 : (Jvm.Cond.instanceMethod ({ cls := "CiteForge$Entry", name := "addField", desc := "(JLCiteForge$Text;)V" } : Jvm.MethodName)) ∈ wAll := w_of3 58 (by decide +kernel) rfl
theorem w539 : (Jvm.Cond.selects "CiteForge$Entry" ({ cls := "CiteForge$Entry", name := "addField", desc := "(JLCiteForge$Text;)V" } : Jvm.MethodName) ({ cls := "CiteForge$Entry", name := "addField", desc := "(JLCiteForge$Text;)V" } : Jvm.MethodName)) ∈ wAll := w_of3 59 (by decide +kernel) rfl
theorem w540 : (Jvm.Cond.code ({ cls := "CiteForge$Entry", name := "addField", desc := "(JLCiteForge$Text;)V" } : Jvm.MethodName) prog_4_method_3_code (4 : Nat) (Option.none : Option Jvm.ClassFile.FieldType)) ∈ wAll := w_of3 60 (by decide +kernel) rfl
theorem w541 : (Jvm.Cond.methodLink "CiteForge$Entry" (45 : Nat) ({ cls := "CiteForge$Entry", name := "ownField", desc := "(J)LCiteForge$Text;" } : Jvm.MethodName)) ∈ wAll := w_of3 61 (by decide +kernel) rfl
theorem w542 : (Jvm.Cond.instanceMethod ({ cls := "CiteForge$Entry", name := "ownField", desc := "(J)LCiteForge$Text;" } : Jvm.MethodName)) ∈ wAll := w_of3 62 (by decide +kernel) rfl
theorem w543 : (Jvm.Cond.selects "CiteForge$Entry" ({ cls := "CiteForge$Entry", name := "ownField", desc := "(J)LCiteForge$Text;" } : Jvm.MethodName) ({ cls := "CiteForge$Entry", name := "ownField", desc := "(J)LCiteForge$Text;" } : Jvm.MethodName)) ∈ wAll := w_of3 63 (by decide +kernel) rfl
theorem w544 : (Jvm.Cond.code ({ cls := "CiteForge$Entry", name := "ownField", desc := "(J)LCiteForge$Text;" } : Jvm.MethodName) prog_4_method_4_code (4 : Nat) (Option.some (Jvm.ClassFile.FieldType.object "CiteForge$Text"))) ∈ wAll := w_of3 64 (by decide +kernel) rfl
theorem w545 : (Jvm.Cond.methodLink "CiteForge$Entry" (49 : Nat) ({ cls := "CiteForge$Text", name := "setTo", desc := "(LCiteForge$Text;)V" } : Jvm.MethodName)) ∈ wAll := w_of3 65 (by decide +kernel) rfl
theorem w546 : (Jvm.Cond.constantLong "CiteForge$Entry" (53 : Nat) (7378429404699914851 : Int64)) ∈ wAll := w_of3 66 (by decide +kernel) rfl
theorem w547 : (Jvm.Cond.methodLink "CiteForge$Entry" (55 : Nat) ({ cls := "CiteForge$Text", name := "asWord", desc := "()J" } : Jvm.MethodName)) ∈ wAll := w_of3 67 (by decide +kernel) rfl
theorem w548 : (Jvm.Cond.instanceMethod ({ cls := "CiteForge$Text", name := "asWord", desc := "()J" } : Jvm.MethodName)) ∈ wAll := w_of3 68 (by decide +kernel) rfl
theorem w549 : (Jvm.Cond.selects "CiteForge$Text" ({ cls := "CiteForge$Text", name := "asWord", desc := "()J" } : Jvm.MethodName) ({ cls := "CiteForge$Text", name := "asWord", desc := "()J" } : Jvm.MethodName)) ∈ wAll := w_of3 69 (by decide +kernel) rfl
theorem w550 : (Jvm.Cond.code ({ cls := "CiteForge$Text", name := "asWord", desc := "()J" } : Jvm.MethodName) prog_11_method_14_code (4 : Nat) (Option.some Jvm.ClassFile.FieldType.long)) ∈ wAll := w_of3 70 (by decide +kernel) rfl
theorem w551 : (Jvm.Cond.methodLinkNest "CiteForge$Text" (50 : Nat) ({ cls := "CiteForge", name := "isWordCharacter", desc := "(C)Z" } : Jvm.MethodName) "CiteForge") ∈ nAll := n_of3 71 (by decide +kernel) rfl
theorem w552 : (Jvm.Cond.methodLinkNest "CiteForge$Text" (53 : Nat) ({ cls := "CiteForge", name := "smallOf", desc := "(C)C" } : Jvm.MethodName) "CiteForge") ∈ nAll := n_of3 72 (by decide +kernel) rfl
theorem w553 : (Jvm.Cond.methodLink "CiteForge$Reader" (121 : Nat) ({ cls := "CiteForge$Shelf", name := "keepDraft", desc := "()V" } : Jvm.MethodName)) ∈ wAll := w_of3 73 (by decide +kernel) rfl
theorem w554 : (Jvm.Cond.instanceMethod ({ cls := "CiteForge$Shelf", name := "keepDraft", desc := "()V" } : Jvm.MethodName)) ∈ wAll := w_of3 74 (by decide +kernel) rfl
theorem w555 : (Jvm.Cond.selects "CiteForge$Shelf" ({ cls := "CiteForge$Shelf", name := "keepDraft", desc := "()V" } : Jvm.MethodName) ({ cls := "CiteForge$Shelf", name := "keepDraft", desc := "()V" } : Jvm.MethodName)) ∈ wAll := w_of3 75 (by decide +kernel) rfl
theorem w556 : (Jvm.Cond.code ({ cls := "CiteForge$Shelf", name := "keepDraft", desc := "()V" } : Jvm.MethodName) prog_9_method_6_code (1 : Nat) (Option.none : Option Jvm.ClassFile.FieldType)) ∈ wAll := w_of3 76 (by decide +kernel) rfl
theorem w557 : (Jvm.Cond.methodLink "CiteForge$Shelf" (26 : Nat) ({ cls := "CiteForge$Shelf", name := "draft", desc := "()LCiteForge$Entry;" } : Jvm.MethodName)) ∈ wAll := w_of3 77 (by decide +kernel) rfl
theorem w558 : (Jvm.Cond.methodLink "CiteForge$Shelf" (34 : Nat) ({ cls := "CiteForge$Shelf", name := "find", desc := "(J)LCiteForge$Entry;" } : Jvm.MethodName)) ∈ wAll := w_of3 78 (by decide +kernel) rfl
theorem w559 : (Jvm.Cond.instanceMethod ({ cls := "CiteForge$Shelf", name := "find", desc := "(J)LCiteForge$Entry;" } : Jvm.MethodName)) ∈ wAll := w_of3 79 (by decide +kernel) rfl
theorem w560 : (Jvm.Cond.selects "CiteForge$Shelf" ({ cls := "CiteForge$Shelf", name := "find", desc := "(J)LCiteForge$Entry;" } : Jvm.MethodName) ({ cls := "CiteForge$Shelf", name := "find", desc := "(J)LCiteForge$Entry;" } : Jvm.MethodName)) ∈ wAll := w_of3 80 (by decide +kernel) rfl
theorem w561 : (Jvm.Cond.code ({ cls := "CiteForge$Shelf", name := "find", desc := "(J)LCiteForge$Entry;" } : Jvm.MethodName) prog_9_method_7_code (4 : Nat) (Option.some (Jvm.ClassFile.FieldType.object "CiteForge$Entry"))) ∈ wAll := w_of3 81 (by decide +kernel) rfl
theorem w562 : (Jvm.Cond.methodLink "CiteForge" (96 : Nat) ({ cls := "CiteForge$Reader", name := "noteWrong", desc := "()V" } : Jvm.MethodName)) ∈ wAll := w_of3 82 (by decide +kernel) rfl
theorem w563 : (Jvm.Cond.instanceMethod ({ cls := "CiteForge$Reader", name := "noteWrong", desc := "()V" } : Jvm.MethodName)) ∈ wAll := w_of3 83 (by decide +kernel) rfl
theorem w564 : (Jvm.Cond.selects "CiteForge$Reader" ({ cls := "CiteForge$Reader", name := "noteWrong", desc := "()V" } : Jvm.MethodName) ({ cls := "CiteForge$Reader", name := "noteWrong", desc := "()V" } : Jvm.MethodName)) ∈ wAll := w_of3 84 (by decide +kernel) rfl
theorem w565 : (Jvm.Cond.code ({ cls := "CiteForge$Reader", name := "noteWrong", desc := "()V" } : Jvm.MethodName) prog_8_method_8_code (1 : Nat) (Option.none : Option Jvm.ClassFile.FieldType)) ∈ wAll := w_of3 85 (by decide +kernel) rfl
theorem w566 : (Jvm.Cond.methodLink "CiteForge" (99 : Nat) ({ cls := "CiteForge$Shelf", name := "size", desc := "()I" } : Jvm.MethodName)) ∈ wAll := w_of3 86 (by decide +kernel) rfl
theorem w567 : (Jvm.Cond.instanceMethod ({ cls := "CiteForge$Shelf", name := "size", desc := "()I" } : Jvm.MethodName)) ∈ wAll := w_of3 87 (by decide +kernel) rfl
theorem w568 : (Jvm.Cond.selects "CiteForge$Shelf" ({ cls := "CiteForge$Shelf", name := "size", desc := "()I" } : Jvm.MethodName) ({ cls := "CiteForge$Shelf", name := "size", desc := "()I" } : Jvm.MethodName)) ∈ wAll := w_of3 88 (by decide +kernel) rfl
theorem w569 : (Jvm.Cond.code ({ cls := "CiteForge$Shelf", name := "size", desc := "()I" } : Jvm.MethodName) prog_9_method_2_code (1 : Nat) (Option.some Jvm.ClassFile.FieldType.int)) ∈ wAll := w_of3 89 (by decide +kernel) rfl
theorem w570 : (Jvm.Cond.methodLink "CiteForgeLaw" (96 : Nat) ({ cls := "CiteForge", name := "forget", desc := "()I" } : Jvm.MethodName)) ∈ wAll := w_of3 90 (by decide +kernel) rfl
theorem w571 : (Jvm.Cond.instanceMethod ({ cls := "CiteForge", name := "forget", desc := "()I" } : Jvm.MethodName)) ∈ wAll := w_of3 91 (by decide +kernel) rfl
theorem w572 : (Jvm.Cond.selects "CiteForge" ({ cls := "CiteForge", name := "forget", desc := "()I" } : Jvm.MethodName) ({ cls := "CiteForge", name := "forget", desc := "()I" } : Jvm.MethodName)) ∈ wAll := w_of3 92 (by decide +kernel) rfl
theorem w573 : (Jvm.Cond.code ({ cls := "CiteForge", name := "forget", desc := "()I" } : Jvm.MethodName) prog_1_method_6_code (1 : Nat) (Option.some Jvm.ClassFile.FieldType.int)) ∈ wAll := w_of3 93 (by decide +kernel) rfl
theorem w574 : (Jvm.Cond.methodLink "CiteForge" (117 : Nat) ({ cls := "CiteForge$Citations", name := "dropCitations", desc := "()I" } : Jvm.MethodName)) ∈ wAll := w_of3 94 (by decide +kernel) rfl
theorem w575 : (Jvm.Cond.instanceMethod ({ cls := "CiteForge$Citations", name := "dropCitations", desc := "()I" } : Jvm.MethodName)) ∈ wAll := w_of3 95 (by decide +kernel) rfl
theorem w576 : (Jvm.Cond.selects "CiteForge$Citations" ({ cls := "CiteForge$Citations", name := "dropCitations", desc := "()I" } : Jvm.MethodName) ({ cls := "CiteForge$Citations", name := "dropCitations", desc := "()I" } : Jvm.MethodName)) ∈ wAll := w_of3 96 (by decide +kernel) rfl
theorem w577 : (Jvm.Cond.code ({ cls := "CiteForge$Citations", name := "dropCitations", desc := "()I" } : Jvm.MethodName) prog_2_method_6_code (2 : Nat) (Option.some Jvm.ClassFile.FieldType.int)) ∈ wAll := w_of3 97 (by decide +kernel) rfl
theorem w578 : (Jvm.Cond.methodLink "CiteForgeLaw" (107 : Nat) ({ cls := "CiteForge", name := "sort", desc := "()Z" } : Jvm.MethodName)) ∈ wAll := w_of3 98 (by decide +kernel) rfl
theorem w579 : (Jvm.Cond.instanceMethod ({ cls := "CiteForge", name := "sort", desc := "()Z" } : Jvm.MethodName)) ∈ wAll := w_of3 99 (by decide +kernel) rfl
theorem w580 : (Jvm.Cond.selects "CiteForge" ({ cls := "CiteForge", name := "sort", desc := "()Z" } : Jvm.MethodName) ({ cls := "CiteForge", name := "sort", desc := "()Z" } : Jvm.MethodName)) ∈ wAll := w_of3 100 (by decide +kernel) rfl
theorem w581 : (Jvm.Cond.code ({ cls := "CiteForge", name := "sort", desc := "()Z" } : Jvm.MethodName) prog_1_method_9_code (1 : Nat) (Option.some Jvm.ClassFile.FieldType.boolean)) ∈ wAll := w_of3 101 (by decide +kernel) rfl
theorem w582 : (Jvm.Cond.methodLink "CiteForge" (143 : Nat) ({ cls := "CiteForge$Citations", name := "sortList", desc := "()Z" } : Jvm.MethodName)) ∈ wAll := w_of3 102 (by decide +kernel) rfl
theorem w583 : (Jvm.Cond.instanceMethod ({ cls := "CiteForge$Citations", name := "sortList", desc := "()Z" } : Jvm.MethodName)) ∈ wAll := w_of3 103 (by decide +kernel) rfl
theorem w584 : (Jvm.Cond.selects "CiteForge$Citations" ({ cls := "CiteForge$Citations", name := "sortList", desc := "()Z" } : Jvm.MethodName) ({ cls := "CiteForge$Citations", name := "sortList", desc := "()Z" } : Jvm.MethodName)) ∈ wAll := w_of3 104 (by decide +kernel) rfl
theorem w585 : (Jvm.Cond.code ({ cls := "CiteForge$Citations", name := "sortList", desc := "()Z" } : Jvm.MethodName) prog_2_method_14_code (5 : Nat) (Option.some Jvm.ClassFile.FieldType.boolean)) ∈ wAll := w_of3 105 (by decide +kernel) rfl
theorem w586 : (Jvm.Cond.methodLink "CiteForge$Citations" (82 : Nat) ({ cls := "CiteForge$Text", name := "against", desc := "(LCiteForge$Text;)I" } : Jvm.MethodName)) ∈ wAll := w_of3 106 (by decide +kernel) rfl
theorem w587 : (Jvm.Cond.instanceMethod ({ cls := "CiteForge$Text", name := "against", desc := "(LCiteForge$Text;)I" } : Jvm.MethodName)) ∈ wAll := w_of3 107 (by decide +kernel) rfl
theorem w588 : (Jvm.Cond.selects "CiteForge$Text" ({ cls := "CiteForge$Text", name := "against", desc := "(LCiteForge$Text;)I" } : Jvm.MethodName) ({ cls := "CiteForge$Text", name := "against", desc := "(LCiteForge$Text;)I" } : Jvm.MethodName)) ∈ wAll := w_of3 108 (by decide +kernel) rfl
theorem w589 : (Jvm.Cond.code ({ cls := "CiteForge$Text", name := "against", desc := "(LCiteForge$Text;)I" } : Jvm.MethodName) prog_11_method_13_code (4 : Nat) (Option.some Jvm.ClassFile.FieldType.int)) ∈ wAll := w_of3 109 (by decide +kernel) rfl
theorem w590 : (Jvm.Cond.methodLink "CiteForgeLaw" (127 : Nat) ({ cls := "CiteForge", name := "depth", desc := "()I" } : Jvm.MethodName)) ∈ wAll := w_of3 110 (by decide +kernel) rfl
theorem w591 : (Jvm.Cond.instanceMethod ({ cls := "CiteForge", name := "depth", desc := "()I" } : Jvm.MethodName)) ∈ wAll := w_of3 111 (by decide +kernel) rfl
theorem w592 : (Jvm.Cond.selects "CiteForge" ({ cls := "CiteForge", name := "depth", desc := "()I" } : Jvm.MethodName) ({ cls := "CiteForge", name := "depth", desc := "()I" } : Jvm.MethodName)) ∈ wAll := w_of3 112 (by decide +kernel) rfl
theorem w593 : (Jvm.Cond.code ({ cls := "CiteForge", name := "depth", desc := "()I" } : Jvm.MethodName) prog_1_method_14_code (1 : Nat) (Option.some Jvm.ClassFile.FieldType.int)) ∈ wAll := w_of3 113 (by decide +kernel) rfl
theorem w594 : (Jvm.Cond.methodLink "CiteForge" (188 : Nat) ({ cls := "CiteForge$Stack", name := "size", desc := "()I" } : Jvm.MethodName)) ∈ wAll := w_of3 114 (by decide +kernel) rfl
theorem w595 : (Jvm.Cond.instanceMethod ({ cls := "CiteForge$Stack", name := "size", desc := "()I" } : Jvm.MethodName)) ∈ wAll := w_of3 115 (by decide +kernel) rfl
theorem w596 : (Jvm.Cond.selects "CiteForge$Stack" ({ cls := "CiteForge$Stack", name := "size", desc := "()I" } : Jvm.MethodName) ({ cls := "CiteForge$Stack", name := "size", desc := "()I" } : Jvm.MethodName)) ∈ wAll := w_of3 116 (by decide +kernel) rfl
theorem w597 : (Jvm.Cond.code ({ cls := "CiteForge$Stack", name := "size", desc := "()I" } : Jvm.MethodName) prog_10_method_2_code (1 : Nat) (Option.some Jvm.ClassFile.FieldType.int)) ∈ wAll := w_of3 117 (by decide +kernel) rfl
theorem w598 : (Jvm.Cond.methodLink "CiteForgeLaw" (140 : Nat) ({ cls := "CiteForge", name := "empty", desc := "()I" } : Jvm.MethodName)) ∈ wAll := w_of3 118 (by decide +kernel) rfl
theorem w599 : (Jvm.Cond.instanceMethod ({ cls := "CiteForge", name := "empty", desc := "()I" } : Jvm.MethodName)) ∈ wAll := w_of3 119 (by decide +kernel) rfl
theorem w600 : (Jvm.Cond.selects "CiteForge" ({ cls := "CiteForge", name := "empty", desc := "()I" } : Jvm.MethodName) ({ cls := "CiteForge", name := "empty", desc := "()I" } : Jvm.MethodName)) ∈ wAll := w_of3 120 (by decide +kernel) rfl
theorem w601 : (Jvm.Cond.code ({ cls := "CiteForge", name := "empty", desc := "()I" } : Jvm.MethodName) prog_1_method_18_code (1 : Nat) (Option.some Jvm.ClassFile.FieldType.int)) ∈ wAll := w_of3 121 (by decide +kernel) rfl
theorem w602 : (Jvm.Cond.methodLink "CiteForge" (208 : Nat) ({ cls := "CiteForge$Stack", name := "dropAll", desc := "()I" } : Jvm.MethodName)) ∈ wAll := w_of3 122 (by decide +kernel) rfl
theorem w603 : (Jvm.Cond.instanceMethod ({ cls := "CiteForge$Stack", name := "dropAll", desc := "()I" } : Jvm.MethodName)) ∈ wAll := w_of3 123 (by decide +kernel) rfl
theorem w604 : (Jvm.Cond.selects "CiteForge$Stack" ({ cls := "CiteForge$Stack", name := "dropAll", desc := "()I" } : Jvm.MethodName) ({ cls := "CiteForge$Stack", name := "dropAll", desc := "()I" } : Jvm.MethodName)) ∈ wAll := w_of3 124 (by decide +kernel) rfl
theorem w605 : (Jvm.Cond.code ({ cls := "CiteForge$Stack", name := "dropAll", desc := "()I" } : Jvm.MethodName) prog_10_method_5_code (2 : Nat) (Option.some Jvm.ClassFile.FieldType.int)) ∈ wAll := w_of3 125 (by decide +kernel) rfl
theorem w609 : (Jvm.Cond.classLink "CiteForgeLaw" (13 : Nat) "java/lang/IllegalArgumentException") ∈ wAll := w_of3 129 (by decide +kernel) rfl
theorem w610 : (Jvm.Cond.classLink "CiteForgeLaw" (15 : Nat) "java/lang/IllegalStateException") ∈ wAll := w_of3 130 (by decide +kernel) rfl
theorem w611 : (Jvm.Cond.methodLink "CiteForgeLaw" (7 : Nat) ({ cls := "CiteForge", name := "write", desc := "(JI)I" } : Jvm.MethodName)) ∈ wAll := w_of3 131 (by decide +kernel) rfl
theorem w612 : (Jvm.Cond.instanceMethod ({ cls := "CiteForge", name := "write", desc := "(JI)I" } : Jvm.MethodName)) ∈ wAll := w_of3 132 (by decide +kernel) rfl
theorem w613 : (Jvm.Cond.selects "CiteForge" ({ cls := "CiteForge", name := "write", desc := "(JI)I" } : Jvm.MethodName) ({ cls := "CiteForge", name := "write", desc := "(JI)I" } : Jvm.MethodName)) ∈ wAll := w_of3 133 (by decide +kernel) rfl
theorem w614 : (Jvm.Cond.code ({ cls := "CiteForge", name := "write", desc := "(JI)I" } : Jvm.MethodName) prog_1_method_2_code (4 : Nat) (Option.some Jvm.ClassFile.FieldType.int)) ∈ wAll := w_of3 134 (by decide +kernel) rfl
theorem w615 : (Jvm.Cond.methodLink "CiteForge" (61 : Nat) ({ cls := "CiteForge$Reader", name := "allCharacters", desc := "(JI)Z" } : Jvm.MethodName)) ∈ wAll := w_of3 135 (by decide +kernel) rfl
theorem w616 : (Jvm.Cond.static ({ cls := "CiteForge$Reader", name := "allCharacters", desc := "(JI)Z" } : Jvm.MethodName)) ∈ wAll := w_of3 136 (by decide +kernel) rfl
theorem w617 : (Jvm.Cond.code ({ cls := "CiteForge$Reader", name := "allCharacters", desc := "(JI)Z" } : Jvm.MethodName) prog_8_method_2_code (5 : Nat) (Option.some Jvm.ClassFile.FieldType.boolean)) ∈ wAll := w_of3 137 (by decide +kernel) rfl
theorem w618 : (Jvm.Cond.methodLinkNest "CiteForge$Reader" (42 : Nat) ({ cls := "CiteForge", name := "byteOf", desc := "(JI)C" } : Jvm.MethodName) "CiteForge") ∈ nAll := n_of3 138 (by decide +kernel) rfl
theorem w619 : (Jvm.Cond.static ({ cls := "CiteForge", name := "byteOf", desc := "(JI)C" } : Jvm.MethodName)) ∈ wAll := w_of3 139 (by decide +kernel) rfl
theorem w620 : (Jvm.Cond.code ({ cls := "CiteForge", name := "byteOf", desc := "(JI)C" } : Jvm.MethodName) prog_1_method_33_code (3 : Nat) (Option.some Jvm.ClassFile.FieldType.char)) ∈ wAll := w_of3 140 (by decide +kernel) rfl
theorem w621 : (Jvm.Cond.constantLong "CiteForge" (238 : Nat) (255 : Int64)) ∈ wAll := w_of3 141 (by decide +kernel) rfl
theorem w622 : (Jvm.Cond.methodLinkNest "CiteForge$Reader" (46 : Nat) ({ cls := "CiteForge", name := "isPrintable", desc := "(I)Z" } : Jvm.MethodName) "CiteForge") ∈ nAll := n_of3 142 (by decide +kernel) rfl
theorem w623 : (Jvm.Cond.static ({ cls := "CiteForge", name := "isPrintable", desc := "(I)Z" } : Jvm.MethodName)) ∈ wAll := w_of3 143 (by decide +kernel) rfl
theorem w624 : (Jvm.Cond.code ({ cls := "CiteForge", name := "isPrintable", desc := "(I)Z" } : Jvm.MethodName) prog_1_method_29_code (1 : Nat) (Option.some Jvm.ClassFile.FieldType.boolean)) ∈ wAll := w_of3 144 (by decide +kernel) rfl
theorem w625 : (Jvm.Cond.classLink "CiteForge" (65 : Nat) "java/lang/IllegalArgumentException") ∈ wAll := w_of3 145 (by decide +kernel) rfl
theorem w690 : (Jvm.Cond.methodLink "CiteForge" (68 : Nat) ({ cls := "CiteForge$Reader", name := "hasRoom", desc := "(I)Z" } : Jvm.MethodName)) ∈ wAll := w_of3 210 (by decide +kernel) rfl
theorem w691 : (Jvm.Cond.instanceMethod ({ cls := "CiteForge$Reader", name := "hasRoom", desc := "(I)Z" } : Jvm.MethodName)) ∈ wAll := w_of3 211 (by decide +kernel) rfl
theorem w692 : (Jvm.Cond.selects "CiteForge$Reader" ({ cls := "CiteForge$Reader", name := "hasRoom", desc := "(I)Z" } : Jvm.MethodName) ({ cls := "CiteForge$Reader", name := "hasRoom", desc := "(I)Z" } : Jvm.MethodName)) ∈ wAll := w_of3 212 (by decide +kernel) rfl
theorem w693 : (Jvm.Cond.code ({ cls := "CiteForge$Reader", name := "hasRoom", desc := "(I)Z" } : Jvm.MethodName) prog_8_method_3_code (2 : Nat) (Option.some Jvm.ClassFile.FieldType.boolean)) ∈ wAll := w_of3 213 (by decide +kernel) rfl
theorem w694 : (Jvm.Cond.classLink "CiteForge" (72 : Nat) "java/lang/IllegalStateException") ∈ wAll := w_of3 214 (by decide +kernel) rfl
theorem w709 : (Jvm.Cond.methodLink "CiteForge" (75 : Nat) ({ cls := "CiteForge$Reader", name := "addCharacters", desc := "(JI)I" } : Jvm.MethodName)) ∈ wAll := w_of3 229 (by decide +kernel) rfl
theorem w710 : (Jvm.Cond.instanceMethod ({ cls := "CiteForge$Reader", name := "addCharacters", desc := "(JI)I" } : Jvm.MethodName)) ∈ wAll := w_of3 230 (by decide +kernel) rfl
theorem w711 : (Jvm.Cond.selects "CiteForge$Reader" ({ cls := "CiteForge$Reader", name := "addCharacters", desc := "(JI)I" } : Jvm.MethodName) ({ cls := "CiteForge$Reader", name := "addCharacters", desc := "(JI)I" } : Jvm.MethodName)) ∈ wAll := w_of3 231 (by decide +kernel) rfl
theorem w712 : (Jvm.Cond.code ({ cls := "CiteForge$Reader", name := "addCharacters", desc := "(JI)I" } : Jvm.MethodName) prog_8_method_4_code (5 : Nat) (Option.some Jvm.ClassFile.FieldType.int)) ∈ wAll := w_of3 232 (by decide +kernel) rfl
theorem w716 : (Jvm.Cond.methodLink "CiteForgeLaw" (17 : Nat) ({ cls := "CiteForge", name := "cite", desc := "(J)Z" } : Jvm.MethodName)) ∈ wAll := w_of3 236 (by decide +kernel) rfl
theorem w717 : (Jvm.Cond.instanceMethod ({ cls := "CiteForge", name := "cite", desc := "(J)Z" } : Jvm.MethodName)) ∈ wAll := w_of3 237 (by decide +kernel) rfl
theorem w718 : (Jvm.Cond.selects "CiteForge" ({ cls := "CiteForge", name := "cite", desc := "(J)Z" } : Jvm.MethodName) ({ cls := "CiteForge", name := "cite", desc := "(J)Z" } : Jvm.MethodName)) ∈ wAll := w_of3 238 (by decide +kernel) rfl
theorem w719 : (Jvm.Cond.code ({ cls := "CiteForge", name := "cite", desc := "(J)Z" } : Jvm.MethodName) prog_1_method_5_code (5 : Nat) (Option.some Jvm.ClassFile.FieldType.boolean)) ∈ wAll := w_of3 239 (by decide +kernel) rfl
theorem w720 : (Jvm.Cond.methodLink "CiteForge" (102 : Nat) ({ cls := "CiteForge", name := "wordOf", desc := "(J)J" } : Jvm.MethodName)) ∈ wAll := w_of4 0 (by decide +kernel) rfl
theorem w721 : (Jvm.Cond.static ({ cls := "CiteForge", name := "wordOf", desc := "(J)J" } : Jvm.MethodName)) ∈ wAll := w_of4 1 (by decide +kernel) rfl
theorem w722 : (Jvm.Cond.code ({ cls := "CiteForge", name := "wordOf", desc := "(J)J" } : Jvm.MethodName) prog_1_method_34_code (6 : Nat) (Option.some Jvm.ClassFile.FieldType.long)) ∈ wAll := w_of4 2 (by decide +kernel) rfl
theorem w723 : (Jvm.Cond.methodLink "CiteForge" (240 : Nat) ({ cls := "CiteForge", name := "byteOf", desc := "(JI)C" } : Jvm.MethodName)) ∈ wAll := w_of4 3 (by decide +kernel) rfl
theorem w724 : (Jvm.Cond.methodLink "CiteForge" (244 : Nat) ({ cls := "CiteForge", name := "isPrintable", desc := "(I)Z" } : Jvm.MethodName)) ∈ wAll := w_of4 4 (by decide +kernel) rfl
theorem w725 : (Jvm.Cond.methodLink "CiteForge" (247 : Nat) ({ cls := "CiteForge", name := "isWordCharacter", desc := "(C)Z" } : Jvm.MethodName)) ∈ wAll := w_of4 5 (by decide +kernel) rfl
theorem w726 : (Jvm.Cond.methodLink "CiteForge" (250 : Nat) ({ cls := "CiteForge", name := "smallOf", desc := "(C)C" } : Jvm.MethodName)) ∈ wAll := w_of4 6 (by decide +kernel) rfl
theorem w727 : (Jvm.Cond.methodLink "CiteForge" (106 : Nat) ({ cls := "CiteForge$Citations", name := "isCited", desc := "(J)Z" } : Jvm.MethodName)) ∈ wAll := w_of4 7 (by decide +kernel) rfl
theorem w728 : (Jvm.Cond.instanceMethod ({ cls := "CiteForge$Citations", name := "isCited", desc := "(J)Z" } : Jvm.MethodName)) ∈ wAll := w_of4 8 (by decide +kernel) rfl
theorem w729 : (Jvm.Cond.selects "CiteForge$Citations" ({ cls := "CiteForge$Citations", name := "isCited", desc := "(J)Z" } : Jvm.MethodName) ({ cls := "CiteForge$Citations", name := "isCited", desc := "(J)Z" } : Jvm.MethodName)) ∈ wAll := w_of4 9 (by decide +kernel) rfl
theorem w730 : (Jvm.Cond.code ({ cls := "CiteForge$Citations", name := "isCited", desc := "(J)Z" } : Jvm.MethodName) prog_2_method_4_code (4 : Nat) (Option.some Jvm.ClassFile.FieldType.boolean)) ∈ wAll := w_of4 10 (by decide +kernel) rfl
theorem w731 : (Jvm.Cond.methodLink "CiteForge" (110 : Nat) ({ cls := "CiteForge$Citations", name := "isFull", desc := "()Z" } : Jvm.MethodName)) ∈ wAll := w_of4 11 (by decide +kernel) rfl
theorem w732 : (Jvm.Cond.instanceMethod ({ cls := "CiteForge$Citations", name := "isFull", desc := "()Z" } : Jvm.MethodName)) ∈ wAll := w_of4 12 (by decide +kernel) rfl
theorem w733 : (Jvm.Cond.selects "CiteForge$Citations" ({ cls := "CiteForge$Citations", name := "isFull", desc := "()Z" } : Jvm.MethodName) ({ cls := "CiteForge$Citations", name := "isFull", desc := "()Z" } : Jvm.MethodName)) ∈ wAll := w_of4 13 (by decide +kernel) rfl
theorem w734 : (Jvm.Cond.code ({ cls := "CiteForge$Citations", name := "isFull", desc := "()Z" } : Jvm.MethodName) prog_2_method_3_code (1 : Nat) (Option.some Jvm.ClassFile.FieldType.boolean)) ∈ wAll := w_of4 14 (by decide +kernel) rfl
theorem w735 : (Jvm.Cond.methodLink "CiteForge" (113 : Nat) ({ cls := "CiteForge$Citations", name := "add", desc := "(J)V" } : Jvm.MethodName)) ∈ wAll := w_of4 15 (by decide +kernel) rfl
theorem w736 : (Jvm.Cond.instanceMethod ({ cls := "CiteForge$Citations", name := "add", desc := "(J)V" } : Jvm.MethodName)) ∈ wAll := w_of4 16 (by decide +kernel) rfl
theorem w737 : (Jvm.Cond.selects "CiteForge$Citations" ({ cls := "CiteForge$Citations", name := "add", desc := "(J)V" } : Jvm.MethodName) ({ cls := "CiteForge$Citations", name := "add", desc := "(J)V" } : Jvm.MethodName)) ∈ wAll := w_of4 17 (by decide +kernel) rfl
theorem w738 : (Jvm.Cond.code ({ cls := "CiteForge$Citations", name := "add", desc := "(J)V" } : Jvm.MethodName) prog_2_method_5_code (3 : Nat) (Option.none : Option Jvm.ClassFile.FieldType)) ∈ wAll := w_of4 18 (by decide +kernel) rfl
theorem w739 : (Jvm.Cond.methodLink "CiteForge$Citations" (35 : Nat) ({ cls := "CiteForge$Citations", name := "isFull", desc := "()Z" } : Jvm.MethodName)) ∈ wAll := w_of4 19 (by decide +kernel) rfl
theorem w743 : (Jvm.Cond.methodLink "CiteForgeLaw" (21 : Nat) ({ cls := "CiteForge", name := "list", desc := "(I)I" } : Jvm.MethodName)) ∈ wAll := w_of4 23 (by decide +kernel) rfl
theorem w744 : (Jvm.Cond.instanceMethod ({ cls := "CiteForge", name := "list", desc := "(I)I" } : Jvm.MethodName)) ∈ wAll := w_of4 24 (by decide +kernel) rfl
theorem w745 : (Jvm.Cond.selects "CiteForge" ({ cls := "CiteForge", name := "list", desc := "(I)I" } : Jvm.MethodName) ({ cls := "CiteForge", name := "list", desc := "(I)I" } : Jvm.MethodName)) ∈ wAll := w_of4 25 (by decide +kernel) rfl
theorem w746 : (Jvm.Cond.code ({ cls := "CiteForge", name := "list", desc := "(I)I" } : Jvm.MethodName) prog_1_method_7_code (2 : Nat) (Option.some Jvm.ClassFile.FieldType.int)) ∈ wAll := w_of4 26 (by decide +kernel) rfl
theorem w747 : (Jvm.Cond.methodLink "CiteForge" (120 : Nat) ({ cls := "CiteForge$Citations", name := "makeList", desc := "(I)V" } : Jvm.MethodName)) ∈ wAll := w_of4 27 (by decide +kernel) rfl
theorem w748 : (Jvm.Cond.instanceMethod ({ cls := "CiteForge$Citations", name := "makeList", desc := "(I)V" } : Jvm.MethodName)) ∈ wAll := w_of4 28 (by decide +kernel) rfl
theorem w749 : (Jvm.Cond.selects "CiteForge$Citations" ({ cls := "CiteForge$Citations", name := "makeList", desc := "(I)V" } : Jvm.MethodName) ({ cls := "CiteForge$Citations", name := "makeList", desc := "(I)V" } : Jvm.MethodName)) ∈ wAll := w_of4 29 (by decide +kernel) rfl
theorem w750 : (Jvm.Cond.code ({ cls := "CiteForge$Citations", name := "makeList", desc := "(I)V" } : Jvm.MethodName) prog_2_method_11_code (5 : Nat) (Option.none : Option Jvm.ClassFile.FieldType)) ∈ wAll := w_of4 30 (by decide +kernel) rfl
theorem w751 : (Jvm.Cond.methodLink "CiteForge$Citations" (42 : Nat) ({ cls := "CiteForge$Shelf", name := "find", desc := "(J)LCiteForge$Entry;" } : Jvm.MethodName)) ∈ wAll := w_of4 31 (by decide +kernel) rfl
theorem w752 : (Jvm.Cond.methodLink "CiteForge$Citations" (46 : Nat) ({ cls := "CiteForge$Citations", name := "addToList", desc := "(LCiteForge$Entry;)V" } : Jvm.MethodName)) ∈ wAll := w_of4 32 (by decide +kernel) rfl
theorem w754 : (Jvm.Cond.instanceMethod ({ cls := "CiteForge$Citations", name := "addToList", desc := "(LCiteForge$Entry;)V" } : Jvm.MethodName)) ∈ wAll := w_of4 34 (by decide +kernel) rfl
theorem w755 : (Jvm.Cond.code ({ cls := "CiteForge$Citations", name := "addToList", desc := "(LCiteForge$Entry;)V" } : Jvm.MethodName) prog_2_method_12_code (2 : Nat) (Option.none : Option Jvm.ClassFile.FieldType)) ∈ wAll := w_of4 35 (by decide +kernel) rfl
theorem w756 : (Jvm.Cond.methodLink "CiteForge$Citations" (74 : Nat) ({ cls := "CiteForge$Text", name := "reset", desc := "()V" } : Jvm.MethodName)) ∈ wAll := w_of4 36 (by decide +kernel) rfl
theorem w757 : (Jvm.Cond.methodLink "CiteForge$Citations" (50 : Nat) ({ cls := "CiteForge$Shelf", name := "size", desc := "()I" } : Jvm.MethodName)) ∈ wAll := w_of4 37 (by decide +kernel) rfl
theorem w758 : (Jvm.Cond.methodLink "CiteForge$Citations" (54 : Nat) ({ cls := "CiteForge$Shelf", name := "entryAt", desc := "(I)LCiteForge$Entry;" } : Jvm.MethodName)) ∈ wAll := w_of4 38 (by decide +kernel) rfl
theorem w759 : (Jvm.Cond.instanceMethod ({ cls := "CiteForge$Shelf", name := "entryAt", desc := "(I)LCiteForge$Entry;" } : Jvm.MethodName)) ∈ wAll := w_of4 39 (by decide +kernel) rfl
theorem w760 : (Jvm.Cond.selects "CiteForge$Shelf" ({ cls := "CiteForge$Shelf", name := "entryAt", desc := "(I)LCiteForge$Entry;" } : Jvm.MethodName) ({ cls := "CiteForge$Shelf", name := "entryAt", desc := "(I)LCiteForge$Entry;" } : Jvm.MethodName)) ∈ wAll := w_of4 40 (by decide +kernel) rfl
theorem w761 : (Jvm.Cond.code ({ cls := "CiteForge$Shelf", name := "entryAt", desc := "(I)LCiteForge$Entry;" } : Jvm.MethodName) prog_9_method_4_code (2 : Nat) (Option.some (Jvm.ClassFile.FieldType.object "CiteForge$Entry"))) ∈ wAll := w_of4 41 (by decide +kernel) rfl
theorem w762 : (Jvm.Cond.methodLink "CiteForge$Citations" (62 : Nat) ({ cls := "CiteForge$Citations", name := "isCited", desc := "(J)Z" } : Jvm.MethodName)) ∈ wAll := w_of4 42 (by decide +kernel) rfl
theorem w763 : (Jvm.Cond.methodLink "CiteForge$Citations" (66 : Nat) ({ cls := "CiteForge$Citations", name := "referring", desc := "(JI)I" } : Jvm.MethodName)) ∈ wAll := w_of4 43 (by decide +kernel) rfl
theorem w765 : (Jvm.Cond.instanceMethod ({ cls := "CiteForge$Citations", name := "referring", desc := "(JI)I" } : Jvm.MethodName)) ∈ wAll := w_of4 45 (by decide +kernel) rfl
theorem w766 : (Jvm.Cond.code ({ cls := "CiteForge$Citations", name := "referring", desc := "(JI)I" } : Jvm.MethodName) prog_2_method_13_code (6 : Nat) (Option.some Jvm.ClassFile.FieldType.int)) ∈ wAll := w_of4 46 (by decide +kernel) rfl
theorem w767 : (Jvm.Cond.methodLink "CiteForge" (124 : Nat) ({ cls := "CiteForge$Citations", name := "listSize", desc := "()I" } : Jvm.MethodName)) ∈ wAll := w_of4 47 (by decide +kernel) rfl
theorem w768 : (Jvm.Cond.instanceMethod ({ cls := "CiteForge$Citations", name := "listSize", desc := "()I" } : Jvm.MethodName)) ∈ wAll := w_of4 48 (by decide +kernel) rfl
theorem w769 : (Jvm.Cond.selects "CiteForge$Citations" ({ cls := "CiteForge$Citations", name := "listSize", desc := "()I" } : Jvm.MethodName) ({ cls := "CiteForge$Citations", name := "listSize", desc := "()I" } : Jvm.MethodName)) ∈ wAll := w_of4 49 (by decide +kernel) rfl
theorem w770 : (Jvm.Cond.code ({ cls := "CiteForge$Citations", name := "listSize", desc := "()I" } : Jvm.MethodName) prog_2_method_7_code (1 : Nat) (Option.some Jvm.ClassFile.FieldType.int)) ∈ wAll := w_of4 50 (by decide +kernel) rfl
theorem w774 : (Jvm.Cond.classLink "CiteForgeLaw" (29 : Nat) "java/lang/IndexOutOfBoundsException") ∈ wAll := w_of4 54 (by decide +kernel) rfl
theorem w775 : (Jvm.Cond.methodLink "CiteForgeLaw" (25 : Nat) ({ cls := "CiteForge", name := "key", desc := "(I)J" } : Jvm.MethodName)) ∈ wAll := w_of4 55 (by decide +kernel) rfl
theorem w776 : (Jvm.Cond.instanceMethod ({ cls := "CiteForge", name := "key", desc := "(I)J" } : Jvm.MethodName)) ∈ wAll := w_of4 56 (by decide +kernel) rfl
theorem w777 : (Jvm.Cond.selects "CiteForge" ({ cls := "CiteForge", name := "key", desc := "(I)J" } : Jvm.MethodName) ({ cls := "CiteForge", name := "key", desc := "(I)J" } : Jvm.MethodName)) ∈ wAll := w_of4 57 (by decide +kernel) rfl
theorem w778 : (Jvm.Cond.code ({ cls := "CiteForge", name := "key", desc := "(I)J" } : Jvm.MethodName) prog_1_method_8_code (2 : Nat) (Option.some Jvm.ClassFile.FieldType.long)) ∈ wAll := w_of4 58 (by decide +kernel) rfl
theorem w779 : (Jvm.Cond.methodLink "CiteForge" (127 : Nat) ({ cls := "CiteForge$Citations", name := "isListed", desc := "(I)Z" } : Jvm.MethodName)) ∈ wAll := w_of4 59 (by decide +kernel) rfl
theorem w780 : (Jvm.Cond.instanceMethod ({ cls := "CiteForge$Citations", name := "isListed", desc := "(I)Z" } : Jvm.MethodName)) ∈ wAll := w_of4 60 (by decide +kernel) rfl
theorem w781 : (Jvm.Cond.selects "CiteForge$Citations" ({ cls := "CiteForge$Citations", name := "isListed", desc := "(I)Z" } : Jvm.MethodName) ({ cls := "CiteForge$Citations", name := "isListed", desc := "(I)Z" } : Jvm.MethodName)) ∈ wAll := w_of4 61 (by decide +kernel) rfl
theorem w782 : (Jvm.Cond.code ({ cls := "CiteForge$Citations", name := "isListed", desc := "(I)Z" } : Jvm.MethodName) prog_2_method_8_code (2 : Nat) (Option.some Jvm.ClassFile.FieldType.boolean)) ∈ wAll := w_of4 62 (by decide +kernel) rfl
theorem w783 : (Jvm.Cond.classLink "CiteForge" (130 : Nat) "java/lang/IndexOutOfBoundsException") ∈ wAll := w_of4 63 (by decide +kernel) rfl
theorem w798 : (Jvm.Cond.methodLink "CiteForge" (133 : Nat) ({ cls := "CiteForge$Citations", name := "listed", desc := "(I)LCiteForge$Entry;" } : Jvm.MethodName)) ∈ wAll := w_of4 78 (by decide +kernel) rfl
theorem w799 : (Jvm.Cond.instanceMethod ({ cls := "CiteForge$Citations", name := "listed", desc := "(I)LCiteForge$Entry;" } : Jvm.MethodName)) ∈ wAll := w_of4 79 (by decide +kernel) rfl
theorem w800 : (Jvm.Cond.selects "CiteForge$Citations" ({ cls := "CiteForge$Citations", name := "listed", desc := "(I)LCiteForge$Entry;" } : Jvm.MethodName) ({ cls := "CiteForge$Citations", name := "listed", desc := "(I)LCiteForge$Entry;" } : Jvm.MethodName)) ∈ wAll := w_of4 80 (by decide +kernel) rfl
theorem w801 : (Jvm.Cond.code ({ cls := "CiteForge$Citations", name := "listed", desc := "(I)LCiteForge$Entry;" } : Jvm.MethodName) prog_2_method_9_code (2 : Nat) (Option.some (Jvm.ClassFile.FieldType.object "CiteForge$Entry"))) ∈ wAll := w_of4 81 (by decide +kernel) rfl
theorem w805 : (Jvm.Cond.classLink "CiteForgeLaw" (35 : Nat) "java/util/NoSuchElementException") ∈ wAll := w_of4 85 (by decide +kernel) rfl
theorem w806 : (Jvm.Cond.methodLink "CiteForgeLaw" (31 : Nat) ({ cls := "CiteForge", name := "field", desc := "(IJI)I" } : Jvm.MethodName)) ∈ wAll := w_of4 86 (by decide +kernel) rfl
theorem w807 : (Jvm.Cond.instanceMethod ({ cls := "CiteForge", name := "field", desc := "(IJI)I" } : Jvm.MethodName)) ∈ wAll := w_of4 87 (by decide +kernel) rfl
theorem w808 : (Jvm.Cond.selects "CiteForge" ({ cls := "CiteForge", name := "field", desc := "(IJI)I" } : Jvm.MethodName) ({ cls := "CiteForge", name := "field", desc := "(IJI)I" } : Jvm.MethodName)) ∈ wAll := w_of4 88 (by decide +kernel) rfl
theorem w809 : (Jvm.Cond.code ({ cls := "CiteForge", name := "field", desc := "(IJI)I" } : Jvm.MethodName) prog_1_method_10_code (6 : Nat) (Option.some Jvm.ClassFile.FieldType.int)) ∈ wAll := w_of4 89 (by decide +kernel) rfl
theorem w810 : (Jvm.Cond.methodLink "CiteForge" (146 : Nat) ({ cls := "CiteForge$Shelf", name := "fieldOf", desc := "(LCiteForge$Entry;J)LCiteForge$Text;" } : Jvm.MethodName)) ∈ wAll := w_of4 90 (by decide +kernel) rfl
theorem w811 : (Jvm.Cond.instanceMethod ({ cls := "CiteForge$Shelf", name := "fieldOf", desc := "(LCiteForge$Entry;J)LCiteForge$Text;" } : Jvm.MethodName)) ∈ wAll := w_of4 91 (by decide +kernel) rfl
theorem w812 : (Jvm.Cond.selects "CiteForge$Shelf" ({ cls := "CiteForge$Shelf", name := "fieldOf", desc := "(LCiteForge$Entry;J)LCiteForge$Text;" } : Jvm.MethodName) ({ cls := "CiteForge$Shelf", name := "fieldOf", desc := "(LCiteForge$Entry;J)LCiteForge$Text;" } : Jvm.MethodName)) ∈ wAll := w_of4 92 (by decide +kernel) rfl
theorem w813 : (Jvm.Cond.code ({ cls := "CiteForge$Shelf", name := "fieldOf", desc := "(LCiteForge$Entry;J)LCiteForge$Text;" } : Jvm.MethodName) prog_9_method_8_code (6 : Nat) (Option.some (Jvm.ClassFile.FieldType.object "CiteForge$Text"))) ∈ wAll := w_of4 93 (by decide +kernel) rfl
theorem w814 : (Jvm.Cond.methodLink "CiteForge$Shelf" (38 : Nat) ({ cls := "CiteForge$Entry", name := "ownField", desc := "(J)LCiteForge$Text;" } : Jvm.MethodName)) ∈ wAll := w_of4 94 (by decide +kernel) rfl
theorem w815 : (Jvm.Cond.constantLong "CiteForge$Shelf" (42 : Nat) (7378429404699914851 : Int64)) ∈ wAll := w_of4 95 (by decide +kernel) rfl
theorem w816 : (Jvm.Cond.classLink "CiteForge" (150 : Nat) "java/util/NoSuchElementException") ∈ wAll := w_of4 96 (by decide +kernel) rfl
theorem w831 : (Jvm.Cond.methodLink "CiteForge" (153 : Nat) ({ cls := "CiteForge$Text", name := "has", desc := "(I)Z" } : Jvm.MethodName)) ∈ wAll := w_of4 111 (by decide +kernel) rfl
theorem w832 : (Jvm.Cond.instanceMethod ({ cls := "CiteForge$Text", name := "has", desc := "(I)Z" } : Jvm.MethodName)) ∈ wAll := w_of4 112 (by decide +kernel) rfl
theorem w833 : (Jvm.Cond.selects "CiteForge$Text" ({ cls := "CiteForge$Text", name := "has", desc := "(I)Z" } : Jvm.MethodName) ({ cls := "CiteForge$Text", name := "has", desc := "(I)Z" } : Jvm.MethodName)) ∈ wAll := w_of4 113 (by decide +kernel) rfl
theorem w834 : (Jvm.Cond.code ({ cls := "CiteForge$Text", name := "has", desc := "(I)Z" } : Jvm.MethodName) prog_11_method_3_code (2 : Nat) (Option.some Jvm.ClassFile.FieldType.boolean)) ∈ wAll := w_of4 114 (by decide +kernel) rfl
theorem w835 : (Jvm.Cond.methodLink "CiteForge" (158 : Nat) ({ cls := "CiteForge$Text", name := "at", desc := "(I)C" } : Jvm.MethodName)) ∈ wAll := w_of4 115 (by decide +kernel) rfl
theorem w839 : (Jvm.Cond.methodLink "CiteForgeLaw" (37 : Nat) ({ cls := "CiteForge", name := "define", desc := "(IIJ)I" } : Jvm.MethodName)) ∈ wAll := w_of4 119 (by decide +kernel) rfl
theorem w840 : (Jvm.Cond.instanceMethod ({ cls := "CiteForge", name := "define", desc := "(IIJ)I" } : Jvm.MethodName)) ∈ wAll := w_of4 120 (by decide +kernel) rfl
theorem w841 : (Jvm.Cond.selects "CiteForge" ({ cls := "CiteForge", name := "define", desc := "(IIJ)I" } : Jvm.MethodName) ({ cls := "CiteForge", name := "define", desc := "(IIJ)I" } : Jvm.MethodName)) ∈ wAll := w_of4 121 (by decide +kernel) rfl
theorem w842 : (Jvm.Cond.code ({ cls := "CiteForge", name := "define", desc := "(IIJ)I" } : Jvm.MethodName) prog_1_method_11_code (5 : Nat) (Option.some Jvm.ClassFile.FieldType.int)) ∈ wAll := w_of4 122 (by decide +kernel) rfl
theorem w843 : (Jvm.Cond.methodLink "CiteForge" (162 : Nat) ({ cls := "CiteForge$Machine", name := "isFunction", desc := "(I)Z" } : Jvm.MethodName)) ∈ wAll := w_of4 123 (by decide +kernel) rfl
theorem w844 : (Jvm.Cond.static ({ cls := "CiteForge$Machine", name := "isFunction", desc := "(I)Z" } : Jvm.MethodName)) ∈ wAll := w_of4 124 (by decide +kernel) rfl
theorem w845 : (Jvm.Cond.code ({ cls := "CiteForge$Machine", name := "isFunction", desc := "(I)Z" } : Jvm.MethodName) prog_5_method_2_code (1 : Nat) (Option.some Jvm.ClassFile.FieldType.boolean)) ∈ wAll := w_of4 125 (by decide +kernel) rfl
theorem w846 : (Jvm.Cond.methodLink "CiteForge" (165 : Nat) ({ cls := "CiteForge$Machine", name := "isOperation", desc := "(I)Z" } : Jvm.MethodName)) ∈ wAll := w_of4 126 (by decide +kernel) rfl
theorem w847 : (Jvm.Cond.static ({ cls := "CiteForge$Machine", name := "isOperation", desc := "(I)Z" } : Jvm.MethodName)) ∈ wAll := w_of4 127 (by decide +kernel) rfl
theorem w848 : (Jvm.Cond.code ({ cls := "CiteForge$Machine", name := "isOperation", desc := "(I)Z" } : Jvm.MethodName) prog_5_method_3_code (1 : Nat) (Option.some Jvm.ClassFile.FieldType.boolean)) ∈ wAll := w_of4 128 (by decide +kernel) rfl
theorem w849 : (Jvm.Cond.methodLink "CiteForge" (168 : Nat) ({ cls := "CiteForge$Machine", name := "isFull", desc := "(I)Z" } : Jvm.MethodName)) ∈ wAll := w_of4 129 (by decide +kernel) rfl
theorem w850 : (Jvm.Cond.instanceMethod ({ cls := "CiteForge$Machine", name := "isFull", desc := "(I)Z" } : Jvm.MethodName)) ∈ wAll := w_of4 130 (by decide +kernel) rfl
theorem w851 : (Jvm.Cond.selects "CiteForge$Machine" ({ cls := "CiteForge$Machine", name := "isFull", desc := "(I)Z" } : Jvm.MethodName) ({ cls := "CiteForge$Machine", name := "isFull", desc := "(I)Z" } : Jvm.MethodName)) ∈ wAll := w_of4 131 (by decide +kernel) rfl
theorem w852 : (Jvm.Cond.code ({ cls := "CiteForge$Machine", name := "isFull", desc := "(I)Z" } : Jvm.MethodName) prog_5_method_4_code (2 : Nat) (Option.some Jvm.ClassFile.FieldType.boolean)) ∈ wAll := w_of4 132 (by decide +kernel) rfl
theorem w853 : (Jvm.Cond.methodLink "CiteForge" (170 : Nat) ({ cls := "CiteForge$Machine", name := "addOperation", desc := "(IIJ)I" } : Jvm.MethodName)) ∈ wAll := w_of4 133 (by decide +kernel) rfl
theorem w854 : (Jvm.Cond.instanceMethod ({ cls := "CiteForge$Machine", name := "addOperation", desc := "(IIJ)I" } : Jvm.MethodName)) ∈ wAll := w_of4 134 (by decide +kernel) rfl
theorem w855 : (Jvm.Cond.selects "CiteForge$Machine" ({ cls := "CiteForge$Machine", name := "addOperation", desc := "(IIJ)I" } : Jvm.MethodName) ({ cls := "CiteForge$Machine", name := "addOperation", desc := "(IIJ)I" } : Jvm.MethodName)) ∈ wAll := w_of4 135 (by decide +kernel) rfl
theorem w856 : (Jvm.Cond.code ({ cls := "CiteForge$Machine", name := "addOperation", desc := "(IIJ)I" } : Jvm.MethodName) prog_5_method_5_code (6 : Nat) (Option.some Jvm.ClassFile.FieldType.int)) ∈ wAll := w_of4 136 (by decide +kernel) rfl
theorem w857 : (Jvm.Cond.methodLink "CiteForge$Machine" (76 : Nat) ({ cls := "java/lang/Math", name := "max", desc := "(JJ)J" } : Jvm.MethodName)) ∈ wAll := w_of4 137 (by decide +kernel) rfl
theorem w858 : (Jvm.Cond.static ({ cls := "java/lang/Math", name := "max", desc := "(JJ)J" } : Jvm.MethodName)) ∈ wAll := w_of4 138 (by decide +kernel) rfl
theorem w859 : (Jvm.Cond.code ({ cls := "java/lang/Math", name := "max", desc := "(JJ)J" } : Jvm.MethodName) prog_19_method_66_code (4 : Nat) (Option.some Jvm.ClassFile.FieldType.long)) ∈ wAll := w_of4 139 (by decide +kernel) rfl
theorem w863 : (Jvm.Cond.methodLink "CiteForgeLaw" (41 : Nat) ({ cls := "CiteForge", name := "clear", desc := "(I)I" } : Jvm.MethodName)) ∈ wAll := w_of4 143 (by decide +kernel) rfl
theorem w864 : (Jvm.Cond.instanceMethod ({ cls := "CiteForge", name := "clear", desc := "(I)I" } : Jvm.MethodName)) ∈ wAll := w_of4 144 (by decide +kernel) rfl
theorem w865 : (Jvm.Cond.selects "CiteForge" ({ cls := "CiteForge", name := "clear", desc := "(I)I" } : Jvm.MethodName) ({ cls := "CiteForge", name := "clear", desc := "(I)I" } : Jvm.MethodName)) ∈ wAll := w_of4 145 (by decide +kernel) rfl
theorem w866 : (Jvm.Cond.code ({ cls := "CiteForge", name := "clear", desc := "(I)I" } : Jvm.MethodName) prog_1_method_12_code (2 : Nat) (Option.some Jvm.ClassFile.FieldType.int)) ∈ wAll := w_of4 146 (by decide +kernel) rfl
theorem w867 : (Jvm.Cond.methodLink "CiteForge" (174 : Nat) ({ cls := "CiteForge$Machine", name := "dropOperations", desc := "(I)I" } : Jvm.MethodName)) ∈ wAll := w_of4 147 (by decide +kernel) rfl
theorem w868 : (Jvm.Cond.instanceMethod ({ cls := "CiteForge$Machine", name := "dropOperations", desc := "(I)I" } : Jvm.MethodName)) ∈ wAll := w_of4 148 (by decide +kernel) rfl
theorem w869 : (Jvm.Cond.selects "CiteForge$Machine" ({ cls := "CiteForge$Machine", name := "dropOperations", desc := "(I)I" } : Jvm.MethodName) ({ cls := "CiteForge$Machine", name := "dropOperations", desc := "(I)I" } : Jvm.MethodName)) ∈ wAll := w_of4 149 (by decide +kernel) rfl
theorem w870 : (Jvm.Cond.code ({ cls := "CiteForge$Machine", name := "dropOperations", desc := "(I)I" } : Jvm.MethodName) prog_5_method_6_code (3 : Nat) (Option.some Jvm.ClassFile.FieldType.int)) ∈ wAll := w_of4 150 (by decide +kernel) rfl
theorem w874 : (Jvm.Cond.classLink "CiteForgeLaw" (48 : Nat) "java/lang/UnsupportedOperationException") ∈ wAll := w_of4 154 (by decide +kernel) rfl
theorem w875 : (Jvm.Cond.methodLink "CiteForgeLaw" (44 : Nat) ({ cls := "CiteForge", name := "run", desc := "(II)I" } : Jvm.MethodName)) ∈ wAll := w_of4 155 (by decide +kernel) rfl
theorem w876 : (Jvm.Cond.instanceMethod ({ cls := "CiteForge", name := "run", desc := "(II)I" } : Jvm.MethodName)) ∈ wAll := w_of4 156 (by decide +kernel) rfl
theorem w877 : (Jvm.Cond.selects "CiteForge" ({ cls := "CiteForge", name := "run", desc := "(II)I" } : Jvm.MethodName) ({ cls := "CiteForge", name := "run", desc := "(II)I" } : Jvm.MethodName)) ∈ wAll := w_of4 157 (by decide +kernel) rfl
theorem w878 : (Jvm.Cond.code ({ cls := "CiteForge", name := "run", desc := "(II)I" } : Jvm.MethodName) prog_1_method_13_code (3 : Nat) (Option.some Jvm.ClassFile.FieldType.int)) ∈ wAll := w_of4 158 (by decide +kernel) rfl
theorem w879 : (Jvm.Cond.methodLink "CiteForge" (178 : Nat) ({ cls := "CiteForge$Machine", name := "start", desc := "(II)Z" } : Jvm.MethodName)) ∈ wAll := w_of4 159 (by decide +kernel) rfl
theorem w880 : (Jvm.Cond.instanceMethod ({ cls := "CiteForge$Machine", name := "start", desc := "(II)Z" } : Jvm.MethodName)) ∈ wAll := w_of4 160 (by decide +kernel) rfl
theorem w881 : (Jvm.Cond.selects "CiteForge$Machine" ({ cls := "CiteForge$Machine", name := "start", desc := "(II)Z" } : Jvm.MethodName) ({ cls := "CiteForge$Machine", name := "start", desc := "(II)Z" } : Jvm.MethodName)) ∈ wAll := w_of4 161 (by decide +kernel) rfl
theorem w882 : (Jvm.Cond.code ({ cls := "CiteForge$Machine", name := "start", desc := "(II)Z" } : Jvm.MethodName) prog_5_method_8_code (5 : Nat) (Option.some Jvm.ClassFile.FieldType.boolean)) ∈ wAll := w_of4 162 (by decide +kernel) rfl
theorem w883 : (Jvm.Cond.methodLink "CiteForge$Machine" (90 : Nat) ({ cls := "CiteForge$Machine", name := "runFunction", desc := "(JI)Z" } : Jvm.MethodName)) ∈ wAll := w_of4 163 (by decide +kernel) rfl
theorem w885 : (Jvm.Cond.instanceMethod ({ cls := "CiteForge$Machine", name := "runFunction", desc := "(JI)Z" } : Jvm.MethodName)) ∈ wAll := w_of4 165 (by decide +kernel) rfl
theorem w886 : (Jvm.Cond.code ({ cls := "CiteForge$Machine", name := "runFunction", desc := "(JI)Z" } : Jvm.MethodName) prog_5_method_9_code (8 : Nat) (Option.some Jvm.ClassFile.FieldType.boolean)) ∈ wAll := w_of4 166 (by decide +kernel) rfl
theorem w887 : (Jvm.Cond.methodLink "CiteForge$Machine" (104 : Nat) ({ cls := "CiteForge$Machine", name := "workOnStack", desc := "(IJ)V" } : Jvm.MethodName)) ∈ wAll := w_of4 167 (by decide +kernel) rfl
theorem w889 : (Jvm.Cond.instanceMethod ({ cls := "CiteForge$Machine", name := "workOnStack", desc := "(IJ)V" } : Jvm.MethodName)) ∈ wAll := w_of4 169 (by decide +kernel) rfl
theorem w890 : (Jvm.Cond.code ({ cls := "CiteForge$Machine", name := "workOnStack", desc := "(IJ)V" } : Jvm.MethodName) prog_5_method_12_code (4 : Nat) (Option.none : Option Jvm.ClassFile.FieldType)) ∈ wAll := w_of4 170 (by decide +kernel) rfl
theorem w891 : (Jvm.Cond.methodLink "CiteForge$Machine" (130 : Nat) ({ cls := "CiteForge$Stack", name := "giveNumber", desc := "(I)V" } : Jvm.MethodName)) ∈ wAll := w_of4 171 (by decide +kernel) rfl
theorem w892 : (Jvm.Cond.instanceMethod ({ cls := "CiteForge$Stack", name := "giveNumber", desc := "(I)V" } : Jvm.MethodName)) ∈ wAll := w_of4 172 (by decide +kernel) rfl
theorem w893 : (Jvm.Cond.selects "CiteForge$Stack" ({ cls := "CiteForge$Stack", name := "giveNumber", desc := "(I)V" } : Jvm.MethodName) ({ cls := "CiteForge$Stack", name := "giveNumber", desc := "(I)V" } : Jvm.MethodName)) ∈ wAll := w_of4 173 (by decide +kernel) rfl
theorem w894 : (Jvm.Cond.code ({ cls := "CiteForge$Stack", name := "giveNumber", desc := "(I)V" } : Jvm.MethodName) prog_10_method_9_code (2 : Nat) (Option.none : Option Jvm.ClassFile.FieldType)) ∈ wAll := w_of4 174 (by decide +kernel) rfl
theorem w895 : (Jvm.Cond.methodLink "CiteForge$Stack" (53 : Nat) ({ cls := "CiteForge$Stack", name := "makeRoom", desc := "()Z" } : Jvm.MethodName)) ∈ wAll := w_of4 175 (by decide +kernel) rfl
theorem w897 : (Jvm.Cond.instanceMethod ({ cls := "CiteForge$Stack", name := "makeRoom", desc := "()Z" } : Jvm.MethodName)) ∈ wAll := w_of4 177 (by decide +kernel) rfl
theorem w898 : (Jvm.Cond.code ({ cls := "CiteForge$Stack", name := "makeRoom", desc := "()Z" } : Jvm.MethodName) prog_10_method_13_code (1 : Nat) (Option.some Jvm.ClassFile.FieldType.boolean)) ∈ wAll := w_of4 178 (by decide +kernel) rfl
theorem w899 : (Jvm.Cond.methodLink "CiteForge$Stack" (26 : Nat) ({ cls := "CiteForge$Value", name := "setToNumber", desc := "(I)V" } : Jvm.MethodName)) ∈ wAll := w_of4 179 (by decide +kernel) rfl
theorem w900 : (Jvm.Cond.instanceMethod ({ cls := "CiteForge$Value", name := "setToNumber", desc := "(I)V" } : Jvm.MethodName)) ∈ wAll := w_of4 180 (by decide +kernel) rfl
theorem w901 : (Jvm.Cond.selects "CiteForge$Value" ({ cls := "CiteForge$Value", name := "setToNumber", desc := "(I)V" } : Jvm.MethodName) ({ cls := "CiteForge$Value", name := "setToNumber", desc := "(I)V" } : Jvm.MethodName)) ∈ wAll := w_of4 181 (by decide +kernel) rfl
theorem w902 : (Jvm.Cond.code ({ cls := "CiteForge$Value", name := "setToNumber", desc := "(I)V" } : Jvm.MethodName) prog_12_method_2_code (2 : Nat) (Option.none : Option Jvm.ClassFile.FieldType)) ∈ wAll := w_of4 182 (by decide +kernel) rfl
theorem w903 : (Jvm.Cond.methodLink "CiteForge$Value" (27 : Nat) ({ cls := "CiteForge$Text", name := "reset", desc := "()V" } : Jvm.MethodName)) ∈ wAll := w_of4 183 (by decide +kernel) rfl
theorem w904 : (Jvm.Cond.methodLink "CiteForge$Machine" (133 : Nat) ({ cls := "CiteForge$Machine", name := "textOf", desc := "(J)LCiteForge$Text;" } : Jvm.MethodName)) ∈ wAll := w_of4 184 (by decide +kernel) rfl
theorem w906 : (Jvm.Cond.instanceMethod ({ cls := "CiteForge$Machine", name := "textOf", desc := "(J)LCiteForge$Text;" } : Jvm.MethodName)) ∈ wAll := w_of4 186 (by decide +kernel) rfl
theorem w907 : (Jvm.Cond.code ({ cls := "CiteForge$Machine", name := "textOf", desc := "(J)LCiteForge$Text;" } : Jvm.MethodName) prog_5_method_16_code (3 : Nat) (Option.some (Jvm.ClassFile.FieldType.object "CiteForge$Text"))) ∈ wAll := w_of4 187 (by decide +kernel) rfl
theorem w908 : (Jvm.Cond.methodLink "CiteForge$Machine" (212 : Nat) ({ cls := "CiteForge$Text", name := "setToBytes", desc := "(J)V" } : Jvm.MethodName)) ∈ wAll := w_of4 188 (by decide +kernel) rfl
theorem w909 : (Jvm.Cond.instanceMethod ({ cls := "CiteForge$Text", name := "setToBytes", desc := "(J)V" } : Jvm.MethodName)) ∈ wAll := w_of4 189 (by decide +kernel) rfl
theorem w910 : (Jvm.Cond.selects "CiteForge$Text" ({ cls := "CiteForge$Text", name := "setToBytes", desc := "(J)V" } : Jvm.MethodName) ({ cls := "CiteForge$Text", name := "setToBytes", desc := "(J)V" } : Jvm.MethodName)) ∈ wAll := w_of4 190 (by decide +kernel) rfl
theorem w911 : (Jvm.Cond.code ({ cls := "CiteForge$Text", name := "setToBytes", desc := "(J)V" } : Jvm.MethodName) prog_11_method_10_code (5 : Nat) (Option.none : Option Jvm.ClassFile.FieldType)) ∈ wAll := w_of4 191 (by decide +kernel) rfl
theorem w912 : (Jvm.Cond.methodLinkNest "CiteForge$Text" (34 : Nat) ({ cls := "CiteForge", name := "byteOf", desc := "(JI)C" } : Jvm.MethodName) "CiteForge") ∈ nAll := n_of4 192 (by decide +kernel) rfl
theorem w913 : (Jvm.Cond.methodLinkNest "CiteForge$Text" (38 : Nat) ({ cls := "CiteForge", name := "isPrintable", desc := "(I)Z" } : Jvm.MethodName) "CiteForge") ∈ nAll := n_of4 193 (by decide +kernel) rfl
theorem w914 : (Jvm.Cond.methodLink "CiteForge$Text" (42 : Nat) ({ cls := "CiteForge$Text", name := "add", desc := "(C)V" } : Jvm.MethodName)) ∈ wAll := w_of4 194 (by decide +kernel) rfl
theorem w915 : (Jvm.Cond.methodLink "CiteForge$Machine" (137 : Nat) ({ cls := "CiteForge$Stack", name := "giveText", desc := "(LCiteForge$Text;)V" } : Jvm.MethodName)) ∈ wAll := w_of4 195 (by decide +kernel) rfl
theorem w916 : (Jvm.Cond.instanceMethod ({ cls := "CiteForge$Stack", name := "giveText", desc := "(LCiteForge$Text;)V" } : Jvm.MethodName)) ∈ wAll := w_of4 196 (by decide +kernel) rfl
theorem w917 : (Jvm.Cond.selects "CiteForge$Stack" ({ cls := "CiteForge$Stack", name := "giveText", desc := "(LCiteForge$Text;)V" } : Jvm.MethodName) ({ cls := "CiteForge$Stack", name := "giveText", desc := "(LCiteForge$Text;)V" } : Jvm.MethodName)) ∈ wAll := w_of4 197 (by decide +kernel) rfl
theorem w918 : (Jvm.Cond.code ({ cls := "CiteForge$Stack", name := "giveText", desc := "(LCiteForge$Text;)V" } : Jvm.MethodName) prog_10_method_11_code (2 : Nat) (Option.none : Option Jvm.ClassFile.FieldType)) ∈ wAll := w_of4 198 (by decide +kernel) rfl
theorem w919 : (Jvm.Cond.methodLink "CiteForge$Stack" (59 : Nat) ({ cls := "CiteForge$Value", name := "setToMissing", desc := "()V" } : Jvm.MethodName)) ∈ wAll := w_of4 199 (by decide +kernel) rfl
theorem w920 : (Jvm.Cond.instanceMethod ({ cls := "CiteForge$Value", name := "setToMissing", desc := "()V" } : Jvm.MethodName)) ∈ wAll := w_of4 200 (by decide +kernel) rfl
theorem w921 : (Jvm.Cond.selects "CiteForge$Value" ({ cls := "CiteForge$Value", name := "setToMissing", desc := "()V" } : Jvm.MethodName) ({ cls := "CiteForge$Value", name := "setToMissing", desc := "()V" } : Jvm.MethodName)) ∈ wAll := w_of4 201 (by decide +kernel) rfl
theorem w922 : (Jvm.Cond.code ({ cls := "CiteForge$Value", name := "setToMissing", desc := "()V" } : Jvm.MethodName) prog_12_method_4_code (1 : Nat) (Option.none : Option Jvm.ClassFile.FieldType)) ∈ wAll := w_of4 202 (by decide +kernel) rfl
theorem w923 : (Jvm.Cond.methodLink "CiteForge$Stack" (62 : Nat) ({ cls := "CiteForge$Value", name := "setToText", desc := "(LCiteForge$Text;)V" } : Jvm.MethodName)) ∈ wAll := w_of4 203 (by decide +kernel) rfl
theorem w924 : (Jvm.Cond.instanceMethod ({ cls := "CiteForge$Value", name := "setToText", desc := "(LCiteForge$Text;)V" } : Jvm.MethodName)) ∈ wAll := w_of4 204 (by decide +kernel) rfl
theorem w925 : (Jvm.Cond.selects "CiteForge$Value" ({ cls := "CiteForge$Value", name := "setToText", desc := "(LCiteForge$Text;)V" } : Jvm.MethodName) ({ cls := "CiteForge$Value", name := "setToText", desc := "(LCiteForge$Text;)V" } : Jvm.MethodName)) ∈ wAll := w_of4 205 (by decide +kernel) rfl
theorem w926 : (Jvm.Cond.code ({ cls := "CiteForge$Value", name := "setToText", desc := "(LCiteForge$Text;)V" } : Jvm.MethodName) prog_12_method_3_code (2 : Nat) (Option.none : Option Jvm.ClassFile.FieldType)) ∈ wAll := w_of4 206 (by decide +kernel) rfl
theorem w927 : (Jvm.Cond.methodLink "CiteForge$Value" (30 : Nat) ({ cls := "CiteForge$Text", name := "setTo", desc := "(LCiteForge$Text;)V" } : Jvm.MethodName)) ∈ wAll := w_of4 207 (by decide +kernel) rfl
theorem w928 : (Jvm.Cond.methodLinkNest "CiteForge$Machine" (141 : Nat) ({ cls := "CiteForge", name := "wordOf", desc := "(J)J" } : Jvm.MethodName) "CiteForge") ∈ nAll := n_of4 208 (by decide +kernel) rfl
theorem w929 : (Jvm.Cond.methodLink "CiteForge$Machine" (145 : Nat) ({ cls := "CiteForge$Machine", name := "fieldAtHand", desc := "(J)LCiteForge$Text;" } : Jvm.MethodName)) ∈ wAll := w_of4 209 (by decide +kernel) rfl
theorem w931 : (Jvm.Cond.instanceMethod ({ cls := "CiteForge$Machine", name := "fieldAtHand", desc := "(J)LCiteForge$Text;" } : Jvm.MethodName)) ∈ wAll := w_of4 211 (by decide +kernel) rfl
theorem w932 : (Jvm.Cond.code ({ cls := "CiteForge$Machine", name := "fieldAtHand", desc := "(J)LCiteForge$Text;" } : Jvm.MethodName) prog_5_method_13_code (3 : Nat) (Option.some (Jvm.ClassFile.FieldType.object "CiteForge$Text"))) ∈ wAll := w_of4 212 (by decide +kernel) rfl
theorem w933 : (Jvm.Cond.methodLink "CiteForge$Machine" (181 : Nat) ({ cls := "CiteForge$Shelf", name := "fieldOf", desc := "(LCiteForge$Entry;J)LCiteForge$Text;" } : Jvm.MethodName)) ∈ wAll := w_of4 213 (by decide +kernel) rfl
theorem w934 : (Jvm.Cond.methodLink "CiteForge$Machine" (148 : Nat) ({ cls := "CiteForge$Stack", name := "takeAny", desc := "(LCiteForge$Value;)V" } : Jvm.MethodName)) ∈ wAll := w_of4 214 (by decide +kernel) rfl
theorem w935 : (Jvm.Cond.instanceMethod ({ cls := "CiteForge$Stack", name := "takeAny", desc := "(LCiteForge$Value;)V" } : Jvm.MethodName)) ∈ wAll := w_of4 215 (by decide +kernel) rfl
theorem w936 : (Jvm.Cond.selects "CiteForge$Stack" ({ cls := "CiteForge$Stack", name := "takeAny", desc := "(LCiteForge$Value;)V" } : Jvm.MethodName) ({ cls := "CiteForge$Stack", name := "takeAny", desc := "(LCiteForge$Value;)V" } : Jvm.MethodName)) ∈ wAll := w_of4 216 (by decide +kernel) rfl
theorem w937 : (Jvm.Cond.code ({ cls := "CiteForge$Stack", name := "takeAny", desc := "(LCiteForge$Value;)V" } : Jvm.MethodName) prog_10_method_6_code (2 : Nat) (Option.none : Option Jvm.ClassFile.FieldType)) ∈ wAll := w_of4 217 (by decide +kernel) rfl
theorem w938 : (Jvm.Cond.methodLink "CiteForge$Stack" (30 : Nat) ({ cls := "CiteForge$Value", name := "setTo", desc := "(LCiteForge$Value;)V" } : Jvm.MethodName)) ∈ wAll := w_of4 218 (by decide +kernel) rfl
theorem w939 : (Jvm.Cond.instanceMethod ({ cls := "CiteForge$Value", name := "setTo", desc := "(LCiteForge$Value;)V" } : Jvm.MethodName)) ∈ wAll := w_of4 219 (by decide +kernel) rfl
theorem w940 : (Jvm.Cond.selects "CiteForge$Value" ({ cls := "CiteForge$Value", name := "setTo", desc := "(LCiteForge$Value;)V" } : Jvm.MethodName) ({ cls := "CiteForge$Value", name := "setTo", desc := "(LCiteForge$Value;)V" } : Jvm.MethodName)) ∈ wAll := w_of4 220 (by decide +kernel) rfl
theorem w941 : (Jvm.Cond.code ({ cls := "CiteForge$Value", name := "setTo", desc := "(LCiteForge$Value;)V" } : Jvm.MethodName) prog_12_method_5_code (2 : Nat) (Option.none : Option Jvm.ClassFile.FieldType)) ∈ wAll := w_of4 221 (by decide +kernel) rfl
theorem w942 : (Jvm.Cond.methodLink "CiteForge$Machine" (152 : Nat) ({ cls := "CiteForge$Value", name := "sameAs", desc := "(LCiteForge$Value;)Z" } : Jvm.MethodName)) ∈ wAll := w_of4 222 (by decide +kernel) rfl
theorem w943 : (Jvm.Cond.instanceMethod ({ cls := "CiteForge$Value", name := "sameAs", desc := "(LCiteForge$Value;)Z" } : Jvm.MethodName)) ∈ wAll := w_of4 223 (by decide +kernel) rfl
theorem w944 : (Jvm.Cond.selects "CiteForge$Value" ({ cls := "CiteForge$Value", name := "sameAs", desc := "(LCiteForge$Value;)Z" } : Jvm.MethodName) ({ cls := "CiteForge$Value", name := "sameAs", desc := "(LCiteForge$Value;)Z" } : Jvm.MethodName)) ∈ wAll := w_of4 224 (by decide +kernel) rfl
theorem w945 : (Jvm.Cond.code ({ cls := "CiteForge$Value", name := "sameAs", desc := "(LCiteForge$Value;)Z" } : Jvm.MethodName) prog_12_method_7_code (2 : Nat) (Option.some Jvm.ClassFile.FieldType.boolean)) ∈ wAll := w_of4 225 (by decide +kernel) rfl
theorem w946 : (Jvm.Cond.methodLink "CiteForge$Value" (34 : Nat) ({ cls := "CiteForge$Value", name := "isNumber", desc := "()Z" } : Jvm.MethodName)) ∈ wAll := w_of4 226 (by decide +kernel) rfl
theorem w947 : (Jvm.Cond.instanceMethod ({ cls := "CiteForge$Value", name := "isNumber", desc := "()Z" } : Jvm.MethodName)) ∈ wAll := w_of4 227 (by decide +kernel) rfl
theorem w948 : (Jvm.Cond.selects "CiteForge$Value" ({ cls := "CiteForge$Value", name := "isNumber", desc := "()Z" } : Jvm.MethodName) ({ cls := "CiteForge$Value", name := "isNumber", desc := "()Z" } : Jvm.MethodName)) ∈ wAll := w_of4 228 (by decide +kernel) rfl
theorem w949 : (Jvm.Cond.code ({ cls := "CiteForge$Value", name := "isNumber", desc := "()Z" } : Jvm.MethodName) prog_12_method_6_code (1 : Nat) (Option.some Jvm.ClassFile.FieldType.boolean)) ∈ wAll := w_of4 229 (by decide +kernel) rfl
theorem w950 : (Jvm.Cond.methodLink "CiteForge$Value" (38 : Nat) ({ cls := "CiteForge$Text", name := "against", desc := "(LCiteForge$Text;)I" } : Jvm.MethodName)) ∈ wAll := w_of4 230 (by decide +kernel) rfl
theorem w951 : (Jvm.Cond.methodLink "CiteForge$Machine" (156 : Nat) ({ cls := "CiteForge$Stack", name := "giveTruth", desc := "(Z)V" } : Jvm.MethodName)) ∈ wAll := w_of4 231 (by decide +kernel) rfl
theorem w952 : (Jvm.Cond.instanceMethod ({ cls := "CiteForge$Stack", name := "giveTruth", desc := "(Z)V" } : Jvm.MethodName)) ∈ wAll := w_of4 232 (by decide +kernel) rfl
theorem w953 : (Jvm.Cond.selects "CiteForge$Stack" ({ cls := "CiteForge$Stack", name := "giveTruth", desc := "(Z)V" } : Jvm.MethodName) ({ cls := "CiteForge$Stack", name := "giveTruth", desc := "(Z)V" } : Jvm.MethodName)) ∈ wAll := w_of4 233 (by decide +kernel) rfl
theorem w954 : (Jvm.Cond.code ({ cls := "CiteForge$Stack", name := "giveTruth", desc := "(Z)V" } : Jvm.MethodName) prog_10_method_10_code (2 : Nat) (Option.none : Option Jvm.ClassFile.FieldType)) ∈ wAll := w_of4 234 (by decide +kernel) rfl
theorem w955 : (Jvm.Cond.methodLink "CiteForge$Stack" (56 : Nat) ({ cls := "CiteForge$Stack", name := "giveNumber", desc := "(I)V" } : Jvm.MethodName)) ∈ wAll := w_of4 235 (by decide +kernel) rfl
theorem w956 : (Jvm.Cond.methodLink "CiteForge$Machine" (160 : Nat) ({ cls := "CiteForge$Stack", name := "takeText", desc := "(LCiteForge$Text;)V" } : Jvm.MethodName)) ∈ wAll := w_of4 236 (by decide +kernel) rfl
theorem w957 : (Jvm.Cond.instanceMethod ({ cls := "CiteForge$Stack", name := "takeText", desc := "(LCiteForge$Text;)V" } : Jvm.MethodName)) ∈ wAll := w_of4 237 (by decide +kernel) rfl
theorem w958 : (Jvm.Cond.selects "CiteForge$Stack" ({ cls := "CiteForge$Stack", name := "takeText", desc := "(LCiteForge$Text;)V" } : Jvm.MethodName) ({ cls := "CiteForge$Stack", name := "takeText", desc := "(LCiteForge$Text;)V" } : Jvm.MethodName)) ∈ wAll := w_of4 238 (by decide +kernel) rfl
theorem w959 : (Jvm.Cond.code ({ cls := "CiteForge$Stack", name := "takeText", desc := "(LCiteForge$Text;)V" } : Jvm.MethodName) prog_10_method_8_code (2 : Nat) (Option.none : Option Jvm.ClassFile.FieldType)) ∈ wAll := w_of4 239 (by decide +kernel) rfl
theorem w960 : (Jvm.Cond.methodLink "CiteForge$Stack" (41 : Nat) ({ cls := "CiteForge$Text", name := "reset", desc := "()V" } : Jvm.MethodName)) ∈ wAll := w_of5 0 (by decide +kernel) rfl
theorem w961 : (Jvm.Cond.methodLink "CiteForge$Stack" (34 : Nat) ({ cls := "CiteForge$Value", name := "isNumber", desc := "()Z" } : Jvm.MethodName)) ∈ wAll := w_of5 1 (by decide +kernel) rfl
theorem w962 : (Jvm.Cond.methodLink "CiteForge$Stack" (50 : Nat) ({ cls := "CiteForge$Text", name := "setTo", desc := "(LCiteForge$Text;)V" } : Jvm.MethodName)) ∈ wAll := w_of5 2 (by decide +kernel) rfl
theorem w963 : (Jvm.Cond.methodLink "CiteForge$Machine" (163 : Nat) ({ cls := "CiteForge$Text", name := "size", desc := "()I" } : Jvm.MethodName)) ∈ wAll := w_of5 3 (by decide +kernel) rfl
theorem w964 : (Jvm.Cond.methodLink "CiteForge$Machine" (166 : Nat) ({ cls := "CiteForge$Text", name := "addPart", desc := "(LCiteForge$Text;II)V" } : Jvm.MethodName)) ∈ wAll := w_of5 4 (by decide +kernel) rfl
theorem w965 : (Jvm.Cond.instanceMethod ({ cls := "CiteForge$Text", name := "addPart", desc := "(LCiteForge$Text;II)V" } : Jvm.MethodName)) ∈ wAll := w_of5 5 (by decide +kernel) rfl
theorem w966 : (Jvm.Cond.selects "CiteForge$Text" ({ cls := "CiteForge$Text", name := "addPart", desc := "(LCiteForge$Text;II)V" } : Jvm.MethodName) ({ cls := "CiteForge$Text", name := "addPart", desc := "(LCiteForge$Text;II)V" } : Jvm.MethodName)) ∈ wAll := w_of5 6 (by decide +kernel) rfl
theorem w967 : (Jvm.Cond.code ({ cls := "CiteForge$Text", name := "addPart", desc := "(LCiteForge$Text;II)V" } : Jvm.MethodName) prog_11_method_8_code (7 : Nat) (Option.none : Option Jvm.ClassFile.FieldType)) ∈ wAll := w_of5 7 (by decide +kernel) rfl
theorem w968 : (Jvm.Cond.methodLink "CiteForge$Text" (19 : Nat) ({ cls := "java/lang/Math", name := "max", desc := "(II)I" } : Jvm.MethodName)) ∈ wAll := w_of5 8 (by decide +kernel) rfl
theorem w969 : (Jvm.Cond.static ({ cls := "java/lang/Math", name := "max", desc := "(II)I" } : Jvm.MethodName)) ∈ wAll := w_of5 9 (by decide +kernel) rfl
theorem w970 : (Jvm.Cond.code ({ cls := "java/lang/Math", name := "max", desc := "(II)I" } : Jvm.MethodName) prog_19_method_65_code (2 : Nat) (Option.some Jvm.ClassFile.FieldType.int)) ∈ wAll := w_of5 10 (by decide +kernel) rfl
theorem w971 : (Jvm.Cond.methodLink "CiteForge$Machine" (170 : Nat) ({ cls := "CiteForge$Stack", name := "giveAny", desc := "(LCiteForge$Value;)V" } : Jvm.MethodName)) ∈ wAll := w_of5 11 (by decide +kernel) rfl
theorem w972 : (Jvm.Cond.instanceMethod ({ cls := "CiteForge$Stack", name := "giveAny", desc := "(LCiteForge$Value;)V" } : Jvm.MethodName)) ∈ wAll := w_of5 12 (by decide +kernel) rfl
theorem w973 : (Jvm.Cond.selects "CiteForge$Stack" ({ cls := "CiteForge$Stack", name := "giveAny", desc := "(LCiteForge$Value;)V" } : Jvm.MethodName) ({ cls := "CiteForge$Stack", name := "giveAny", desc := "(LCiteForge$Value;)V" } : Jvm.MethodName)) ∈ wAll := w_of5 13 (by decide +kernel) rfl
theorem w974 : (Jvm.Cond.code ({ cls := "CiteForge$Stack", name := "giveAny", desc := "(LCiteForge$Value;)V" } : Jvm.MethodName) prog_10_method_12_code (2 : Nat) (Option.none : Option Jvm.ClassFile.FieldType)) ∈ wAll := w_of5 14 (by decide +kernel) rfl
theorem w975 : (Jvm.Cond.methodLink "CiteForge$Machine" (173 : Nat) ({ cls := "CiteForge$Value", name := "isNothing", desc := "()Z" } : Jvm.MethodName)) ∈ wAll := w_of5 15 (by decide +kernel) rfl
theorem w976 : (Jvm.Cond.instanceMethod ({ cls := "CiteForge$Value", name := "isNothing", desc := "()Z" } : Jvm.MethodName)) ∈ wAll := w_of5 16 (by decide +kernel) rfl
theorem w977 : (Jvm.Cond.selects "CiteForge$Value" ({ cls := "CiteForge$Value", name := "isNothing", desc := "()Z" } : Jvm.MethodName) ({ cls := "CiteForge$Value", name := "isNothing", desc := "()Z" } : Jvm.MethodName)) ∈ wAll := w_of5 17 (by decide +kernel) rfl
theorem w978 : (Jvm.Cond.code ({ cls := "CiteForge$Value", name := "isNothing", desc := "()Z" } : Jvm.MethodName) prog_12_method_8_code (1 : Nat) (Option.some Jvm.ClassFile.FieldType.boolean)) ∈ wAll := w_of5 18 (by decide +kernel) rfl
theorem w979 : (Jvm.Cond.methodLink "CiteForge$Value" (42 : Nat) ({ cls := "CiteForge$Text", name := "isBlankAlone", desc := "()Z" } : Jvm.MethodName)) ∈ wAll := w_of5 19 (by decide +kernel) rfl
theorem w980 : (Jvm.Cond.instanceMethod ({ cls := "CiteForge$Text", name := "isBlankAlone", desc := "()Z" } : Jvm.MethodName)) ∈ wAll := w_of5 20 (by decide +kernel) rfl
theorem w981 : (Jvm.Cond.selects "CiteForge$Text" ({ cls := "CiteForge$Text", name := "isBlankAlone", desc := "()Z" } : Jvm.MethodName) ({ cls := "CiteForge$Text", name := "isBlankAlone", desc := "()Z" } : Jvm.MethodName)) ∈ wAll := w_of5 21 (by decide +kernel) rfl
theorem w982 : (Jvm.Cond.code ({ cls := "CiteForge$Text", name := "isBlankAlone", desc := "()Z" } : Jvm.MethodName) prog_11_method_12_code (2 : Nat) (Option.some Jvm.ClassFile.FieldType.boolean)) ∈ wAll := w_of5 22 (by decide +kernel) rfl
theorem w983 : (Jvm.Cond.methodLinkNest "CiteForge$Text" (46 : Nat) ({ cls := "CiteForge", name := "isBlank", desc := "(C)Z" } : Jvm.MethodName) "CiteForge") ∈ nAll := n_of5 23 (by decide +kernel) rfl
theorem w984 : (Jvm.Cond.methodLink "CiteForge$Machine" (177 : Nat) ({ cls := "CiteForge$Machine", name := "reckon", desc := "(I)I" } : Jvm.MethodName)) ∈ wAll := w_of5 24 (by decide +kernel) rfl
theorem w986 : (Jvm.Cond.instanceMethod ({ cls := "CiteForge$Machine", name := "reckon", desc := "(I)I" } : Jvm.MethodName)) ∈ wAll := w_of5 26 (by decide +kernel) rfl
theorem w987 : (Jvm.Cond.code ({ cls := "CiteForge$Machine", name := "reckon", desc := "(I)I" } : Jvm.MethodName) prog_5_method_14_code (4 : Nat) (Option.some Jvm.ClassFile.FieldType.int)) ∈ wAll := w_of5 27 (by decide +kernel) rfl
theorem w988 : (Jvm.Cond.methodLink "CiteForge$Machine" (124 : Nat) ({ cls := "CiteForge$Stack", name := "takeNumber", desc := "()I" } : Jvm.MethodName)) ∈ wAll := w_of5 28 (by decide +kernel) rfl
theorem w989 : (Jvm.Cond.instanceMethod ({ cls := "CiteForge$Stack", name := "takeNumber", desc := "()I" } : Jvm.MethodName)) ∈ wAll := w_of5 29 (by decide +kernel) rfl
theorem w990 : (Jvm.Cond.selects "CiteForge$Stack" ({ cls := "CiteForge$Stack", name := "takeNumber", desc := "()I" } : Jvm.MethodName) ({ cls := "CiteForge$Stack", name := "takeNumber", desc := "()I" } : Jvm.MethodName)) ∈ wAll := w_of5 30 (by decide +kernel) rfl
theorem w991 : (Jvm.Cond.code ({ cls := "CiteForge$Stack", name := "takeNumber", desc := "()I" } : Jvm.MethodName) prog_10_method_7_code (1 : Nat) (Option.some Jvm.ClassFile.FieldType.int)) ∈ wAll := w_of5 31 (by decide +kernel) rfl
theorem w992 : (Jvm.Cond.methodLink "CiteForge$Machine" (108 : Nat) ({ cls := "CiteForge$Machine", name := "workOnText", desc := "(IJ)V" } : Jvm.MethodName)) ∈ wAll := w_of5 32 (by decide +kernel) rfl
theorem w994 : (Jvm.Cond.instanceMethod ({ cls := "CiteForge$Machine", name := "workOnText", desc := "(IJ)V" } : Jvm.MethodName)) ∈ wAll := w_of5 34 (by decide +kernel) rfl
theorem w995 : (Jvm.Cond.code ({ cls := "CiteForge$Machine", name := "workOnText", desc := "(IJ)V" } : Jvm.MethodName) prog_5_method_17_code (7 : Nat) (Option.none : Option Jvm.ClassFile.FieldType)) ∈ wAll := w_of5 35 (by decide +kernel) rfl
theorem w996 : (Jvm.Cond.methodLink "CiteForge$Machine" (216 : Nat) ({ cls := "CiteForge$People", name := "countNames", desc := "(LCiteForge$Text;)I" } : Jvm.MethodName)) ∈ wAll := w_of5 36 (by decide +kernel) rfl
theorem w997 : (Jvm.Cond.static ({ cls := "CiteForge$People", name := "countNames", desc := "(LCiteForge$Text;)I" } : Jvm.MethodName)) ∈ wAll := w_of5 37 (by decide +kernel) rfl
theorem w998 : (Jvm.Cond.code ({ cls := "CiteForge$People", name := "countNames", desc := "(LCiteForge$Text;)I" } : Jvm.MethodName) prog_7_method_2_code (4 : Nat) (Option.some Jvm.ClassFile.FieldType.int)) ∈ wAll := w_of5 38 (by decide +kernel) rfl
theorem w999 : (Jvm.Cond.methodLink "CiteForge$People" (25 : Nat) ({ cls := "CiteForge$Text", name := "isBlankAlone", desc := "()Z" } : Jvm.MethodName)) ∈ wAll := w_of5 39 (by decide +kernel) rfl
theorem w1000 : (Jvm.Cond.methodLink "CiteForge$People" (31 : Nat) ({ cls := "CiteForge$Text", name := "size", desc := "()I" } : Jvm.MethodName)) ∈ wAll := w_of5 40 (by decide +kernel) rfl
theorem w1001 : (Jvm.Cond.methodLink "CiteForge$People" (35 : Nat) ({ cls := "CiteForge$Text", name := "at", desc := "(I)C" } : Jvm.MethodName)) ∈ wAll := w_of5 41 (by decide +kernel) rfl
theorem w1002 : (Jvm.Cond.methodLinkNest "CiteForge$People" (39 : Nat) ({ cls := "CiteForge", name := "levelBehind", desc := "(IC)I" } : Jvm.MethodName) "CiteForge") ∈ nAll := n_of5 42 (by decide +kernel) rfl
theorem w1003 : (Jvm.Cond.methodLink "CiteForge$People" (43 : Nat) ({ cls := "CiteForge$People", name := "isAnd", desc := "(LCiteForge$Text;I)Z" } : Jvm.MethodName)) ∈ wAll := w_of5 43 (by decide +kernel) rfl
theorem w1004 : (Jvm.Cond.static ({ cls := "CiteForge$People", name := "isAnd", desc := "(LCiteForge$Text;I)Z" } : Jvm.MethodName)) ∈ wAll := w_of5 44 (by decide +kernel) rfl
theorem w1005 : (Jvm.Cond.code ({ cls := "CiteForge$People", name := "isAnd", desc := "(LCiteForge$Text;I)Z" } : Jvm.MethodName) prog_7_method_3_code (2 : Nat) (Option.some Jvm.ClassFile.FieldType.boolean)) ∈ wAll := w_of5 45 (by decide +kernel) rfl
theorem w1006 : (Jvm.Cond.methodLinkNest "CiteForge$People" (47 : Nat) ({ cls := "CiteForge", name := "isBlank", desc := "(C)Z" } : Jvm.MethodName) "CiteForge") ∈ nAll := n_of5 46 (by decide +kernel) rfl
theorem w1007 : (Jvm.Cond.methodLink "CiteForge$Machine" (220 : Nat) ({ cls := "CiteForge$Editing", name := "sizeWithoutBraces", desc := "(LCiteForge$Text;)I" } : Jvm.MethodName)) ∈ wAll := w_of5 47 (by decide +kernel) rfl
theorem w1008 : (Jvm.Cond.static ({ cls := "CiteForge$Editing", name := "sizeWithoutBraces", desc := "(LCiteForge$Text;)I" } : Jvm.MethodName)) ∈ wAll := w_of5 48 (by decide +kernel) rfl
theorem w1009 : (Jvm.Cond.code ({ cls := "CiteForge$Editing", name := "sizeWithoutBraces", desc := "(LCiteForge$Text;)I" } : Jvm.MethodName) prog_3_method_4_code (3 : Nat) (Option.some Jvm.ClassFile.FieldType.int)) ∈ wAll := w_of5 49 (by decide +kernel) rfl
theorem w1010 : (Jvm.Cond.methodLink "CiteForge$Editing" (12 : Nat) ({ cls := "CiteForge$Text", name := "size", desc := "()I" } : Jvm.MethodName)) ∈ wAll := w_of5 50 (by decide +kernel) rfl
theorem w1011 : (Jvm.Cond.methodLink "CiteForge$Editing" (16 : Nat) ({ cls := "CiteForge$Text", name := "at", desc := "(I)C" } : Jvm.MethodName)) ∈ wAll := w_of5 51 (by decide +kernel) rfl
theorem w1012 : (Jvm.Cond.methodLinkNest "CiteForge$Editing" (47 : Nat) ({ cls := "CiteForge", name := "isBrace", desc := "(C)Z" } : Jvm.MethodName) "CiteForge") ∈ nAll := n_of5 52 (by decide +kernel) rfl
theorem w1013 : (Jvm.Cond.static ({ cls := "CiteForge", name := "isBrace", desc := "(C)Z" } : Jvm.MethodName)) ∈ wAll := w_of5 53 (by decide +kernel) rfl
theorem w1014 : (Jvm.Cond.code ({ cls := "CiteForge", name := "isBrace", desc := "(C)Z" } : Jvm.MethodName) prog_1_method_27_code (1 : Nat) (Option.some Jvm.ClassFile.FieldType.boolean)) ∈ wAll := w_of5 54 (by decide +kernel) rfl
theorem w1015 : (Jvm.Cond.methodLink "CiteForge$Machine" (225 : Nat) ({ cls := "CiteForge$People", name := "findName", desc := "(LCiteForge$Text;I)Z" } : Jvm.MethodName)) ∈ wAll := w_of5 55 (by decide +kernel) rfl
theorem w1016 : (Jvm.Cond.instanceMethod ({ cls := "CiteForge$People", name := "findName", desc := "(LCiteForge$Text;I)Z" } : Jvm.MethodName)) ∈ wAll := w_of5 56 (by decide +kernel) rfl
theorem w1017 : (Jvm.Cond.selects "CiteForge$People" ({ cls := "CiteForge$People", name := "findName", desc := "(LCiteForge$Text;I)Z" } : Jvm.MethodName) ({ cls := "CiteForge$People", name := "findName", desc := "(LCiteForge$Text;I)Z" } : Jvm.MethodName)) ∈ wAll := w_of5 57 (by decide +kernel) rfl
theorem w1018 : (Jvm.Cond.code ({ cls := "CiteForge$People", name := "findName", desc := "(LCiteForge$Text;I)Z" } : Jvm.MethodName) prog_7_method_4_code (6 : Nat) (Option.some Jvm.ClassFile.FieldType.boolean)) ∈ wAll := w_of5 58 (by decide +kernel) rfl
theorem w1019 : (Jvm.Cond.methodLink "CiteForge$Machine" (229 : Nat) ({ cls := "CiteForge$People", name := "takeApart", desc := "(LCiteForge$Text;)V" } : Jvm.MethodName)) ∈ wAll := w_of5 59 (by decide +kernel) rfl
theorem w1020 : (Jvm.Cond.instanceMethod ({ cls := "CiteForge$People", name := "takeApart", desc := "(LCiteForge$Text;)V" } : Jvm.MethodName)) ∈ wAll := w_of5 60 (by decide +kernel) rfl
theorem w1021 : (Jvm.Cond.selects "CiteForge$People" ({ cls := "CiteForge$People", name := "takeApart", desc := "(LCiteForge$Text;)V" } : Jvm.MethodName) ({ cls := "CiteForge$People", name := "takeApart", desc := "(LCiteForge$Text;)V" } : Jvm.MethodName)) ∈ wAll := w_of5 61 (by decide +kernel) rfl
theorem w1022 : (Jvm.Cond.code ({ cls := "CiteForge$People", name := "takeApart", desc := "(LCiteForge$Text;)V" } : Jvm.MethodName) prog_7_method_5_code (3 : Nat) (Option.none : Option Jvm.ClassFile.FieldType)) ∈ wAll := w_of5 62 (by decide +kernel) rfl
theorem w1023 : (Jvm.Cond.methodLink "CiteForge$People" (58 : Nat) ({ cls := "CiteForge$People", name := "divide", desc := "(LCiteForge$Text;)V" } : Jvm.MethodName)) ∈ wAll := w_of5 63 (by decide +kernel) rfl
theorem w1025 : (Jvm.Cond.instanceMethod ({ cls := "CiteForge$People", name := "divide", desc := "(LCiteForge$Text;)V" } : Jvm.MethodName)) ∈ wAll := w_of5 65 (by decide +kernel) rfl
theorem w1026 : (Jvm.Cond.code ({ cls := "CiteForge$People", name := "divide", desc := "(LCiteForge$Text;)V" } : Jvm.MethodName) prog_7_method_6_code (6 : Nat) (Option.none : Option Jvm.ClassFile.FieldType)) ∈ wAll := w_of5 66 (by decide +kernel) rfl
theorem w1027 : (Jvm.Cond.methodLink "CiteForge$People" (81 : Nat) ({ cls := "CiteForge$People", name := "isDivider", desc := "(C)Z" } : Jvm.MethodName)) ∈ wAll := w_of5 67 (by decide +kernel) rfl
theorem w1028 : (Jvm.Cond.static ({ cls := "CiteForge$People", name := "isDivider", desc := "(C)Z" } : Jvm.MethodName)) ∈ wAll := w_of5 68 (by decide +kernel) rfl
theorem w1029 : (Jvm.Cond.code ({ cls := "CiteForge$People", name := "isDivider", desc := "(C)Z" } : Jvm.MethodName) prog_7_method_7_code (1 : Nat) (Option.some Jvm.ClassFile.FieldType.boolean)) ∈ wAll := w_of5 69 (by decide +kernel) rfl
theorem w1030 : (Jvm.Cond.methodLink "CiteForge$People" (84 : Nat) ({ cls := "CiteForge$People", name := "addWord", desc := "(II)V" } : Jvm.MethodName)) ∈ wAll := w_of5 70 (by decide +kernel) rfl
theorem w1032 : (Jvm.Cond.instanceMethod ({ cls := "CiteForge$People", name := "addWord", desc := "(II)V" } : Jvm.MethodName)) ∈ wAll := w_of5 72 (by decide +kernel) rfl
theorem w1033 : (Jvm.Cond.code ({ cls := "CiteForge$People", name := "addWord", desc := "(II)V" } : Jvm.MethodName) prog_7_method_8_code (3 : Nat) (Option.none : Option Jvm.ClassFile.FieldType)) ∈ wAll := w_of5 73 (by decide +kernel) rfl
theorem w1034 : (Jvm.Cond.methodLink "CiteForge$People" (65 : Nat) ({ cls := "CiteForge$People", name := "firstLetterOutside", desc := "(LCiteForge$Text;II)C" } : Jvm.MethodName)) ∈ wAll := w_of5 74 (by decide +kernel) rfl
theorem w1035 : (Jvm.Cond.static ({ cls := "CiteForge$People", name := "firstLetterOutside", desc := "(LCiteForge$Text;II)C" } : Jvm.MethodName)) ∈ wAll := w_of5 75 (by decide +kernel) rfl
theorem w1036 : (Jvm.Cond.code ({ cls := "CiteForge$People", name := "firstLetterOutside", desc := "(LCiteForge$Text;II)C" } : Jvm.MethodName) prog_7_method_9_code (6 : Nat) (Option.some Jvm.ClassFile.FieldType.char)) ∈ wAll := w_of5 76 (by decide +kernel) rfl
theorem w1037 : (Jvm.Cond.methodLinkNest "CiteForge$People" (88 : Nat) ({ cls := "CiteForge", name := "isLetter", desc := "(C)Z" } : Jvm.MethodName) "CiteForge") ∈ nAll := n_of5 77 (by decide +kernel) rfl
theorem w1038 : (Jvm.Cond.methodLinkNest "CiteForge$People" (69 : Nat) ({ cls := "CiteForge", name := "isSmall", desc := "(C)Z" } : Jvm.MethodName) "CiteForge") ∈ nAll := n_of5 78 (by decide +kernel) rfl
theorem w1039 : (Jvm.Cond.static ({ cls := "CiteForge", name := "isSmall", desc := "(C)Z" } : Jvm.MethodName)) ∈ wAll := w_of5 79 (by decide +kernel) rfl
theorem w1040 : (Jvm.Cond.code ({ cls := "CiteForge", name := "isSmall", desc := "(C)Z" } : Jvm.MethodName) prog_1_method_23_code (1 : Nat) (Option.some Jvm.ClassFile.FieldType.boolean)) ∈ wAll := w_of5 80 (by decide +kernel) rfl
theorem w1041 : (Jvm.Cond.methodLink "CiteForge$People" (75 : Nat) ({ cls := "CiteForge$People", name := "assignOnePart", desc := "()V" } : Jvm.MethodName)) ∈ wAll := w_of5 81 (by decide +kernel) rfl
theorem w1043 : (Jvm.Cond.instanceMethod ({ cls := "CiteForge$People", name := "assignOnePart", desc := "()V" } : Jvm.MethodName)) ∈ wAll := w_of5 83 (by decide +kernel) rfl
theorem w1044 : (Jvm.Cond.code ({ cls := "CiteForge$People", name := "assignOnePart", desc := "()V" } : Jvm.MethodName) prog_7_method_12_code (3 : Nat) (Option.none : Option Jvm.ClassFile.FieldType)) ∈ wAll := w_of5 84 (by decide +kernel) rfl
theorem w1045 : (Jvm.Cond.methodLink "CiteForge$People" (91 : Nat) ({ cls := "java/lang/Math", name := "max", desc := "(II)I" } : Jvm.MethodName)) ∈ wAll := w_of5 85 (by decide +kernel) rfl
theorem w1046 : (Jvm.Cond.methodLink "CiteForge$People" (97 : Nat) ({ cls := "CiteForge$People", name := "firstLow", desc := "(I)I" } : Jvm.MethodName)) ∈ wAll := w_of5 86 (by decide +kernel) rfl
theorem w1048 : (Jvm.Cond.instanceMethod ({ cls := "CiteForge$People", name := "firstLow", desc := "(I)I" } : Jvm.MethodName)) ∈ wAll := w_of5 88 (by decide +kernel) rfl
theorem w1049 : (Jvm.Cond.code ({ cls := "CiteForge$People", name := "firstLow", desc := "(I)I" } : Jvm.MethodName) prog_7_method_10_code (3 : Nat) (Option.some Jvm.ClassFile.FieldType.int)) ∈ wAll := w_of5 89 (by decide +kernel) rfl
theorem w1050 : (Jvm.Cond.methodLink "CiteForge$People" (110 : Nat) ({ cls := "CiteForge$People", name := "lastLow", desc := "(I)I" } : Jvm.MethodName)) ∈ wAll := w_of5 90 (by decide +kernel) rfl
theorem w1052 : (Jvm.Cond.instanceMethod ({ cls := "CiteForge$People", name := "lastLow", desc := "(I)I" } : Jvm.MethodName)) ∈ wAll := w_of5 92 (by decide +kernel) rfl
theorem w1053 : (Jvm.Cond.code ({ cls := "CiteForge$People", name := "lastLow", desc := "(I)I" } : Jvm.MethodName) prog_7_method_11_code (3 : Nat) (Option.some Jvm.ClassFile.FieldType.int)) ∈ wAll := w_of5 93 (by decide +kernel) rfl
theorem w1054 : (Jvm.Cond.methodLink "CiteForge$People" (78 : Nat) ({ cls := "CiteForge$People", name := "assignParts", desc := "()V" } : Jvm.MethodName)) ∈ wAll := w_of5 94 (by decide +kernel) rfl
theorem w1056 : (Jvm.Cond.instanceMethod ({ cls := "CiteForge$People", name := "assignParts", desc := "()V" } : Jvm.MethodName)) ∈ wAll := w_of5 96 (by decide +kernel) rfl
theorem w1057 : (Jvm.Cond.code ({ cls := "CiteForge$People", name := "assignParts", desc := "()V" } : Jvm.MethodName) prog_7_method_13_code (2 : Nat) (Option.none : Option Jvm.ClassFile.FieldType)) ∈ wAll := w_of5 97 (by decide +kernel) rfl
theorem w1058 : (Jvm.Cond.constantLong "CiteForge$Machine" (187 : Nat) (4 : Int64)) ∈ wAll := w_of5 98 (by decide +kernel) rfl
theorem w1059 : (Jvm.Cond.methodLink "CiteForge$Machine" (232 : Nat) ({ cls := "CiteForge$People", name := "putTogether", desc := "(LCiteForge$Text;ILCiteForge$Text;)V" } : Jvm.MethodName)) ∈ wAll := w_of5 99 (by decide +kernel) rfl
theorem w1060 : (Jvm.Cond.instanceMethod ({ cls := "CiteForge$People", name := "putTogether", desc := "(LCiteForge$Text;ILCiteForge$Text;)V" } : Jvm.MethodName)) ∈ wAll := w_of5 100 (by decide +kernel) rfl
theorem w1061 : (Jvm.Cond.selects "CiteForge$People" ({ cls := "CiteForge$People", name := "putTogether", desc := "(LCiteForge$Text;ILCiteForge$Text;)V" } : Jvm.MethodName) ({ cls := "CiteForge$People", name := "putTogether", desc := "(LCiteForge$Text;ILCiteForge$Text;)V" } : Jvm.MethodName)) ∈ wAll := w_of5 101 (by decide +kernel) rfl
theorem w1062 : (Jvm.Cond.code ({ cls := "CiteForge$People", name := "putTogether", desc := "(LCiteForge$Text;ILCiteForge$Text;)V" } : Jvm.MethodName) prog_7_method_14_code (4 : Nat) (Option.none : Option Jvm.ClassFile.FieldType)) ∈ wAll := w_of5 102 (by decide +kernel) rfl
theorem w1063 : (Jvm.Cond.methodLink "CiteForge$People" (128 : Nat) ({ cls := "CiteForge$Text", name := "reset", desc := "()V" } : Jvm.MethodName)) ∈ wAll := w_of5 103 (by decide +kernel) rfl
theorem w1064 : (Jvm.Cond.methodLink "CiteForge$People" (131 : Nat) ({ cls := "CiteForge$People", name := "addWords", desc := "(LCiteForge$Text;IILCiteForge$Text;)V" } : Jvm.MethodName)) ∈ wAll := w_of5 104 (by decide +kernel) rfl
theorem w1066 : (Jvm.Cond.instanceMethod ({ cls := "CiteForge$People", name := "addWords", desc := "(LCiteForge$Text;IILCiteForge$Text;)V" } : Jvm.MethodName)) ∈ wAll := w_of5 106 (by decide +kernel) rfl
theorem w1067 : (Jvm.Cond.code ({ cls := "CiteForge$People", name := "addWords", desc := "(LCiteForge$Text;IILCiteForge$Text;)V" } : Jvm.MethodName) prog_7_method_16_code (6 : Nat) (Option.none : Option Jvm.ClassFile.FieldType)) ∈ wAll := w_of5 107 (by decide +kernel) rfl
theorem w1068 : (Jvm.Cond.methodLink "CiteForge$People" (143 : Nat) ({ cls := "CiteForge$Text", name := "add", desc := "(C)V" } : Jvm.MethodName)) ∈ wAll := w_of5 108 (by decide +kernel) rfl
theorem w1069 : (Jvm.Cond.methodLink "CiteForge$People" (147 : Nat) ({ cls := "CiteForge$Text", name := "addPart", desc := "(LCiteForge$Text;II)V" } : Jvm.MethodName)) ∈ wAll := w_of5 109 (by decide +kernel) rfl
theorem w1070 : (Jvm.Cond.methodLink "CiteForge$People" (135 : Nat) ({ cls := "CiteForge$People", name := "addComma", desc := "(IILCiteForge$Text;)V" } : Jvm.MethodName)) ∈ wAll := w_of5 110 (by decide +kernel) rfl
theorem w1071 : (Jvm.Cond.static ({ cls := "CiteForge$People", name := "addComma", desc := "(IILCiteForge$Text;)V" } : Jvm.MethodName)) ∈ wAll := w_of5 111 (by decide +kernel) rfl
theorem w1072 : (Jvm.Cond.code ({ cls := "CiteForge$People", name := "addComma", desc := "(IILCiteForge$Text;)V" } : Jvm.MethodName) prog_7_method_15_code (3 : Nat) (Option.none : Option Jvm.ClassFile.FieldType)) ∈ wAll := w_of5 112 (by decide +kernel) rfl
theorem w1073 : (Jvm.Cond.methodLink "CiteForge$People" (139 : Nat) ({ cls := "CiteForge$People", name := "addInitials", desc := "(LCiteForge$Text;LCiteForge$Text;)V" } : Jvm.MethodName)) ∈ wAll := w_of5 113 (by decide +kernel) rfl
theorem w1075 : (Jvm.Cond.instanceMethod ({ cls := "CiteForge$People", name := "addInitials", desc := "(LCiteForge$Text;LCiteForge$Text;)V" } : Jvm.MethodName)) ∈ wAll := w_of5 115 (by decide +kernel) rfl
theorem w1076 : (Jvm.Cond.code ({ cls := "CiteForge$People", name := "addInitials", desc := "(LCiteForge$Text;LCiteForge$Text;)V" } : Jvm.MethodName) prog_7_method_17_code (5 : Nat) (Option.none : Option Jvm.ClassFile.FieldType)) ∈ wAll := w_of5 116 (by decide +kernel) rfl
theorem w1077 : (Jvm.Cond.methodLink "CiteForge$People" (151 : Nat) ({ cls := "CiteForge$People", name := "initialPlace", desc := "(LCiteForge$Text;I)I" } : Jvm.MethodName)) ∈ wAll := w_of5 117 (by decide +kernel) rfl
theorem w1079 : (Jvm.Cond.instanceMethod ({ cls := "CiteForge$People", name := "initialPlace", desc := "(LCiteForge$Text;I)I" } : Jvm.MethodName)) ∈ wAll := w_of5 119 (by decide +kernel) rfl
theorem w1080 : (Jvm.Cond.code ({ cls := "CiteForge$People", name := "initialPlace", desc := "(LCiteForge$Text;I)I" } : Jvm.MethodName) prog_7_method_18_code (6 : Nat) (Option.some Jvm.ClassFile.FieldType.int)) ∈ wAll := w_of5 120 (by decide +kernel) rfl
theorem w1081 : (Jvm.Cond.methodLinkNest "CiteForge$People" (155 : Nat) ({ cls := "CiteForge", name := "isBrace", desc := "(C)Z" } : Jvm.MethodName) "CiteForge") ∈ nAll := n_of5 121 (by decide +kernel) rfl
theorem w1082 : (Jvm.Cond.methodLink "CiteForge$Machine" (236 : Nat) ({ cls := "CiteForge$Text", name := "reset", desc := "()V" } : Jvm.MethodName)) ∈ wAll := w_of5 122 (by decide +kernel) rfl
theorem w1083 : (Jvm.Cond.constantLong "CiteForge$Machine" (239 : Nat) (3 : Int64)) ∈ wAll := w_of5 123 (by decide +kernel) rfl
theorem w1084 : (Jvm.Cond.methodLink "CiteForge$Machine" (241 : Nat) ({ cls := "CiteForge$Editing", name := "changeCapitals", desc := "(LCiteForge$Text;ILCiteForge$Text;)V" } : Jvm.MethodName)) ∈ wAll := w_of5 124 (by decide +kernel) rfl
theorem w1085 : (Jvm.Cond.static ({ cls := "CiteForge$Editing", name := "changeCapitals", desc := "(LCiteForge$Text;ILCiteForge$Text;)V" } : Jvm.MethodName)) ∈ wAll := w_of5 125 (by decide +kernel) rfl
theorem w1086 : (Jvm.Cond.code ({ cls := "CiteForge$Editing", name := "changeCapitals", desc := "(LCiteForge$Text;ILCiteForge$Text;)V" } : Jvm.MethodName) prog_3_method_2_code (8 : Nat) (Option.none : Option Jvm.ClassFile.FieldType)) ∈ wAll := w_of5 126 (by decide +kernel) rfl
theorem w1087 : (Jvm.Cond.methodLink "CiteForge$Editing" (7 : Nat) ({ cls := "CiteForge$Text", name := "reset", desc := "()V" } : Jvm.MethodName)) ∈ wAll := w_of5 127 (by decide +kernel) rfl
theorem w1088 : (Jvm.Cond.methodLinkNest "CiteForge$Editing" (20 : Nat) ({ cls := "CiteForge", name := "levelBehind", desc := "(IC)I" } : Jvm.MethodName) "CiteForge") ∈ nAll := n_of5 128 (by decide +kernel) rfl
theorem w1089 : (Jvm.Cond.methodLink "CiteForge$Editing" (26 : Nat) ({ cls := "CiteForge$Text", name := "add", desc := "(C)V" } : Jvm.MethodName)) ∈ wAll := w_of5 129 (by decide +kernel) rfl
theorem w1090 : (Jvm.Cond.methodLinkNest "CiteForge$Editing" (30 : Nat) ({ cls := "CiteForge", name := "capitalOf", desc := "(C)C" } : Jvm.MethodName) "CiteForge") ∈ nAll := n_of5 130 (by decide +kernel) rfl
theorem w1091 : (Jvm.Cond.static ({ cls := "CiteForge", name := "capitalOf", desc := "(C)C" } : Jvm.MethodName)) ∈ wAll := w_of5 131 (by decide +kernel) rfl
theorem w1092 : (Jvm.Cond.code ({ cls := "CiteForge", name := "capitalOf", desc := "(C)C" } : Jvm.MethodName) prog_1_method_31_code (1 : Nat) (Option.some Jvm.ClassFile.FieldType.char)) ∈ wAll := w_of5 132 (by decide +kernel) rfl
theorem w1093 : (Jvm.Cond.methodLink "CiteForge" (235 : Nat) ({ cls := "CiteForge", name := "isSmall", desc := "(C)Z" } : Jvm.MethodName)) ∈ wAll := w_of5 133 (by decide +kernel) rfl
theorem w1094 : (Jvm.Cond.methodLinkNest "CiteForge$Editing" (34 : Nat) ({ cls := "CiteForge", name := "smallOf", desc := "(C)C" } : Jvm.MethodName) "CiteForge") ∈ nAll := n_of5 134 (by decide +kernel) rfl
theorem w1095 : (Jvm.Cond.methodLinkNest "CiteForge$Editing" (37 : Nat) ({ cls := "CiteForge", name := "isBlank", desc := "(C)Z" } : Jvm.MethodName) "CiteForge") ∈ nAll := n_of5 135 (by decide +kernel) rfl
theorem w1096 : (Jvm.Cond.methodLink "CiteForge$Machine" (244 : Nat) ({ cls := "CiteForge$Editing", name := "purify", desc := "(LCiteForge$Text;LCiteForge$Text;)V" } : Jvm.MethodName)) ∈ wAll := w_of5 136 (by decide +kernel) rfl
theorem w1097 : (Jvm.Cond.static ({ cls := "CiteForge$Editing", name := "purify", desc := "(LCiteForge$Text;LCiteForge$Text;)V" } : Jvm.MethodName)) ∈ wAll := w_of5 137 (by decide +kernel) rfl
theorem w1098 : (Jvm.Cond.code ({ cls := "CiteForge$Editing", name := "purify", desc := "(LCiteForge$Text;LCiteForge$Text;)V" } : Jvm.MethodName) prog_3_method_3_code (4 : Nat) (Option.none : Option Jvm.ClassFile.FieldType)) ∈ wAll := w_of5 138 (by decide +kernel) rfl
theorem w1099 : (Jvm.Cond.methodLinkNest "CiteForge$Editing" (41 : Nat) ({ cls := "CiteForge", name := "isLetter", desc := "(C)Z" } : Jvm.MethodName) "CiteForge") ∈ nAll := n_of5 139 (by decide +kernel) rfl
theorem w1100 : (Jvm.Cond.methodLinkNest "CiteForge$Editing" (44 : Nat) ({ cls := "CiteForge", name := "isDigit", desc := "(C)Z" } : Jvm.MethodName) "CiteForge") ∈ nAll := n_of5 140 (by decide +kernel) rfl
theorem w1101 : (Jvm.Cond.methodLink "CiteForge$Machine" (248 : Nat) ({ cls := "CiteForge$Editing", name := "cutBehind", desc := "(LCiteForge$Text;ILCiteForge$Text;)V" } : Jvm.MethodName)) ∈ wAll := w_of5 141 (by decide +kernel) rfl
theorem w1102 : (Jvm.Cond.static ({ cls := "CiteForge$Editing", name := "cutBehind", desc := "(LCiteForge$Text;ILCiteForge$Text;)V" } : Jvm.MethodName)) ∈ wAll := w_of5 142 (by decide +kernel) rfl
theorem w1103 : (Jvm.Cond.code ({ cls := "CiteForge$Editing", name := "cutBehind", desc := "(LCiteForge$Text;ILCiteForge$Text;)V" } : Jvm.MethodName) prog_3_method_5_code (7 : Nat) (Option.none : Option Jvm.ClassFile.FieldType)) ∈ wAll := w_of5 143 (by decide +kernel) rfl
theorem w1104 : (Jvm.Cond.methodLink "CiteForge$Machine" (251 : Nat) ({ cls := "CiteForge$Editing", name := "cutOut", desc := "(LCiteForge$Text;IILCiteForge$Text;)V" } : Jvm.MethodName)) ∈ wAll := w_of5 144 (by decide +kernel) rfl
theorem w1105 : (Jvm.Cond.static ({ cls := "CiteForge$Editing", name := "cutOut", desc := "(LCiteForge$Text;IILCiteForge$Text;)V" } : Jvm.MethodName)) ∈ wAll := w_of5 145 (by decide +kernel) rfl
theorem w1106 : (Jvm.Cond.code ({ cls := "CiteForge$Editing", name := "cutOut", desc := "(LCiteForge$Text;IILCiteForge$Text;)V" } : Jvm.MethodName) prog_3_method_6_code (10 : Nat) (Option.none : Option Jvm.ClassFile.FieldType)) ∈ wAll := w_of5 146 (by decide +kernel) rfl
theorem w1107 : (Jvm.Cond.methodLink "CiteForge$Editing" (50 : Nat) ({ cls := "java/lang/Math", name := "max", desc := "(JJ)J" } : Jvm.MethodName)) ∈ wAll := w_of5 147 (by decide +kernel) rfl
theorem w1108 : (Jvm.Cond.methodLink "CiteForge$Editing" (56 : Nat) ({ cls := "java/lang/Math", name := "min", desc := "(JJ)J" } : Jvm.MethodName)) ∈ wAll := w_of5 148 (by decide +kernel) rfl
theorem w1109 : (Jvm.Cond.static ({ cls := "java/lang/Math", name := "min", desc := "(JJ)J" } : Jvm.MethodName)) ∈ wAll := w_of5 149 (by decide +kernel) rfl
theorem w1110 : (Jvm.Cond.code ({ cls := "java/lang/Math", name := "min", desc := "(JJ)J" } : Jvm.MethodName) prog_19_method_70_code (4 : Nat) (Option.some Jvm.ClassFile.FieldType.long)) ∈ wAll := w_of5 150 (by decide +kernel) rfl
theorem w1111 : (Jvm.Cond.methodLink "CiteForge$Editing" (59 : Nat) ({ cls := "CiteForge$Text", name := "addPart", desc := "(LCiteForge$Text;II)V" } : Jvm.MethodName)) ∈ wAll := w_of5 151 (by decide +kernel) rfl
theorem w1112 : (Jvm.Cond.methodLink "CiteForge$Machine" (111 : Nat) ({ cls := "CiteForge$Machine", name := "workOnEntry", desc := "(IJ)V" } : Jvm.MethodName)) ∈ wAll := w_of5 152 (by decide +kernel) rfl
theorem w1114 : (Jvm.Cond.instanceMethod ({ cls := "CiteForge$Machine", name := "workOnEntry", desc := "(IJ)V" } : Jvm.MethodName)) ∈ wAll := w_of5 154 (by decide +kernel) rfl
theorem w1115 : (Jvm.Cond.code ({ cls := "CiteForge$Machine", name := "workOnEntry", desc := "(IJ)V" } : Jvm.MethodName) prog_5_method_15_code (4 : Nat) (Option.none : Option Jvm.ClassFile.FieldType)) ∈ wAll := w_of5 155 (by decide +kernel) rfl
theorem w1116 : (Jvm.Cond.methodLink "CiteForge$Machine" (201 : Nat) ({ cls := "CiteForge$Text", name := "setTo", desc := "(LCiteForge$Text;)V" } : Jvm.MethodName)) ∈ wAll := w_of5 156 (by decide +kernel) rfl
theorem w1117 : (Jvm.Cond.methodLink "CiteForge$Machine" (204 : Nat) ({ cls := "CiteForge$Page", name := "putOut", desc := "(LCiteForge$Text;)V" } : Jvm.MethodName)) ∈ wAll := w_of5 157 (by decide +kernel) rfl
theorem w1118 : (Jvm.Cond.instanceMethod ({ cls := "CiteForge$Page", name := "putOut", desc := "(LCiteForge$Text;)V" } : Jvm.MethodName)) ∈ wAll := w_of5 158 (by decide +kernel) rfl
theorem w1119 : (Jvm.Cond.selects "CiteForge$Page" ({ cls := "CiteForge$Page", name := "putOut", desc := "(LCiteForge$Text;)V" } : Jvm.MethodName) ({ cls := "CiteForge$Page", name := "putOut", desc := "(LCiteForge$Text;)V" } : Jvm.MethodName)) ∈ wAll := w_of5 159 (by decide +kernel) rfl
theorem w1120 : (Jvm.Cond.code ({ cls := "CiteForge$Page", name := "putOut", desc := "(LCiteForge$Text;)V" } : Jvm.MethodName) prog_6_method_6_code (4 : Nat) (Option.none : Option Jvm.ClassFile.FieldType)) ∈ wAll := w_of5 160 (by decide +kernel) rfl
theorem w1121 : (Jvm.Cond.methodLink "CiteForge$Page" (26 : Nat) ({ cls := "CiteForge$Text", name := "size", desc := "()I" } : Jvm.MethodName)) ∈ wAll := w_of5 161 (by decide +kernel) rfl
theorem w1122 : (Jvm.Cond.methodLink "CiteForge$Page" (30 : Nat) ({ cls := "CiteForge$Text", name := "addPart", desc := "(LCiteForge$Text;II)V" } : Jvm.MethodName)) ∈ wAll := w_of5 162 (by decide +kernel) rfl
theorem w1123 : (Jvm.Cond.methodLink "CiteForge$Page" (34 : Nat) ({ cls := "CiteForge$Page", name := "breakPlace", desc := "()I" } : Jvm.MethodName)) ∈ wAll := w_of5 163 (by decide +kernel) rfl
theorem w1125 : (Jvm.Cond.instanceMethod ({ cls := "CiteForge$Page", name := "breakPlace", desc := "()I" } : Jvm.MethodName)) ∈ wAll := w_of5 165 (by decide +kernel) rfl
theorem w1126 : (Jvm.Cond.code ({ cls := "CiteForge$Page", name := "breakPlace", desc := "()I" } : Jvm.MethodName) prog_6_method_8_code (3 : Nat) (Option.some Jvm.ClassFile.FieldType.int)) ∈ wAll := w_of5 166 (by decide +kernel) rfl
theorem w1127 : (Jvm.Cond.methodLink "CiteForge$Page" (46 : Nat) ({ cls := "CiteForge$Text", name := "at", desc := "(I)C" } : Jvm.MethodName)) ∈ wAll := w_of5 167 (by decide +kernel) rfl
theorem w1128 : (Jvm.Cond.methodLink "CiteForge$Page" (37 : Nat) ({ cls := "CiteForge$Page", name := "keepLine", desc := "(I)V" } : Jvm.MethodName)) ∈ wAll := w_of5 168 (by decide +kernel) rfl
theorem w1130 : (Jvm.Cond.instanceMethod ({ cls := "CiteForge$Page", name := "keepLine", desc := "(I)V" } : Jvm.MethodName)) ∈ wAll := w_of5 170 (by decide +kernel) rfl
theorem w1131 : (Jvm.Cond.code ({ cls := "CiteForge$Page", name := "keepLine", desc := "(I)V" } : Jvm.MethodName) prog_6_method_9_code (3 : Nat) (Option.none : Option Jvm.ClassFile.FieldType)) ∈ wAll := w_of5 171 (by decide +kernel) rfl
theorem w1132 : (Jvm.Cond.methodLink "CiteForge$Page" (40 : Nat) ({ cls := "CiteForge$Text", name := "indentFrom", desc := "(I)V" } : Jvm.MethodName)) ∈ wAll := w_of5 172 (by decide +kernel) rfl
theorem w1133 : (Jvm.Cond.instanceMethod ({ cls := "CiteForge$Text", name := "indentFrom", desc := "(I)V" } : Jvm.MethodName)) ∈ wAll := w_of5 173 (by decide +kernel) rfl
theorem w1134 : (Jvm.Cond.selects "CiteForge$Text" ({ cls := "CiteForge$Text", name := "indentFrom", desc := "(I)V" } : Jvm.MethodName) ({ cls := "CiteForge$Text", name := "indentFrom", desc := "(I)V" } : Jvm.MethodName)) ∈ wAll := w_of5 174 (by decide +kernel) rfl
theorem w1135 : (Jvm.Cond.code ({ cls := "CiteForge$Text", name := "indentFrom", desc := "(I)V" } : Jvm.MethodName) prog_11_method_11_code (3 : Nat) (Option.none : Option Jvm.ClassFile.FieldType)) ∈ wAll := w_of5 175 (by decide +kernel) rfl
theorem w1136 : (Jvm.Cond.methodLink "CiteForge$Machine" (209 : Nat) ({ cls := "CiteForge$Page", name := "endLine", desc := "()V" } : Jvm.MethodName)) ∈ wAll := w_of5 176 (by decide +kernel) rfl
theorem w1137 : (Jvm.Cond.instanceMethod ({ cls := "CiteForge$Page", name := "endLine", desc := "()V" } : Jvm.MethodName)) ∈ wAll := w_of5 177 (by decide +kernel) rfl
theorem w1138 : (Jvm.Cond.selects "CiteForge$Page" ({ cls := "CiteForge$Page", name := "endLine", desc := "()V" } : Jvm.MethodName) ({ cls := "CiteForge$Page", name := "endLine", desc := "()V" } : Jvm.MethodName)) ∈ wAll := w_of5 178 (by decide +kernel) rfl
theorem w1139 : (Jvm.Cond.code ({ cls := "CiteForge$Page", name := "endLine", desc := "()V" } : Jvm.MethodName) prog_6_method_7_code (1 : Nat) (Option.none : Option Jvm.ClassFile.FieldType)) ∈ wAll := w_of5 179 (by decide +kernel) rfl
theorem w1140 : (Jvm.Cond.methodLink "CiteForge$Page" (43 : Nat) ({ cls := "CiteForge$Text", name := "reset", desc := "()V" } : Jvm.MethodName)) ∈ wAll := w_of5 180 (by decide +kernel) rfl
theorem w1141 : (Jvm.Cond.methodLink "CiteForge$Machine" (114 : Nat) ({ cls := "CiteForge$Machine", name := "runInner", desc := "(IJI)Z" } : Jvm.MethodName)) ∈ wAll := w_of5 181 (by decide +kernel) rfl
theorem w1143 : (Jvm.Cond.instanceMethod ({ cls := "CiteForge$Machine", name := "runInner", desc := "(IJI)Z" } : Jvm.MethodName)) ∈ wAll := w_of5 183 (by decide +kernel) rfl
theorem w1144 : (Jvm.Cond.code ({ cls := "CiteForge$Machine", name := "runInner", desc := "(IJI)Z" } : Jvm.MethodName) prog_5_method_10_code (9 : Nat) (Option.some Jvm.ClassFile.FieldType.boolean)) ∈ wAll := w_of5 184 (by decide +kernel) rfl
theorem w1145 : (Jvm.Cond.constantLong "CiteForge$Machine" (118 : Nat) (6 : Int64)) ∈ wAll := w_of5 185 (by decide +kernel) rfl
theorem w1146 : (Jvm.Cond.methodLink "CiteForge$Machine" (120 : Nat) ({ cls := "CiteForge$Machine", name := "runWhile", desc := "(JJI)Z" } : Jvm.MethodName)) ∈ wAll := w_of5 186 (by decide +kernel) rfl
theorem w1148 : (Jvm.Cond.instanceMethod ({ cls := "CiteForge$Machine", name := "runWhile", desc := "(JJI)Z" } : Jvm.MethodName)) ∈ wAll := w_of5 188 (by decide +kernel) rfl
theorem w1149 : (Jvm.Cond.code ({ cls := "CiteForge$Machine", name := "runWhile", desc := "(JJI)Z" } : Jvm.MethodName) prog_5_method_11_code (7 : Nat) (Option.some Jvm.ClassFile.FieldType.boolean)) ∈ wAll := w_of5 189 (by decide +kernel) rfl
theorem w1150 : (Jvm.Cond.constant "CiteForge$Machine" (129 : Nat) (1000000 : Int32)) ∈ wAll := w_of5 190 (by decide +kernel) rfl
theorem w1151 : (Jvm.Cond.methodLink "CiteForge$Machine" (94 : Nat) ({ cls := "CiteForge$Citations", name := "listSize", desc := "()I" } : Jvm.MethodName)) ∈ wAll := w_of5 191 (by decide +kernel) rfl
theorem w1152 : (Jvm.Cond.methodLink "CiteForge$Machine" (100 : Nat) ({ cls := "CiteForge$Citations", name := "listed", desc := "(I)LCiteForge$Entry;" } : Jvm.MethodName)) ∈ wAll := w_of5 192 (by decide +kernel) rfl
theorem w1153 : (Jvm.Cond.classLink "CiteForge" (182 : Nat) "java/lang/UnsupportedOperationException") ∈ wAll := w_of5 193 (by decide +kernel) rfl
theorem w1168 : (Jvm.Cond.methodLink "CiteForge" (185 : Nat) ({ cls := "CiteForge$Machine", name := "operationsDone", desc := "()I" } : Jvm.MethodName)) ∈ wAll := w_of5 208 (by decide +kernel) rfl
theorem w1169 : (Jvm.Cond.instanceMethod ({ cls := "CiteForge$Machine", name := "operationsDone", desc := "()I" } : Jvm.MethodName)) ∈ wAll := w_of5 209 (by decide +kernel) rfl
theorem w1170 : (Jvm.Cond.selects "CiteForge$Machine" ({ cls := "CiteForge$Machine", name := "operationsDone", desc := "()I" } : Jvm.MethodName) ({ cls := "CiteForge$Machine", name := "operationsDone", desc := "()I" } : Jvm.MethodName)) ∈ wAll := w_of5 210 (by decide +kernel) rfl
theorem w1171 : (Jvm.Cond.code ({ cls := "CiteForge$Machine", name := "operationsDone", desc := "()I" } : Jvm.MethodName) prog_5_method_7_code (1 : Nat) (Option.some Jvm.ClassFile.FieldType.int)) ∈ wAll := w_of5 211 (by decide +kernel) rfl
theorem w1175 : (Jvm.Cond.methodLink "CiteForgeLaw" (50 : Nat) ({ cls := "CiteForge", name := "kind", desc := "(I)I" } : Jvm.MethodName)) ∈ wAll := w_of5 215 (by decide +kernel) rfl
theorem w1176 : (Jvm.Cond.instanceMethod ({ cls := "CiteForge", name := "kind", desc := "(I)I" } : Jvm.MethodName)) ∈ wAll := w_of5 216 (by decide +kernel) rfl
theorem w1177 : (Jvm.Cond.selects "CiteForge" ({ cls := "CiteForge", name := "kind", desc := "(I)I" } : Jvm.MethodName) ({ cls := "CiteForge", name := "kind", desc := "(I)I" } : Jvm.MethodName)) ∈ wAll := w_of5 217 (by decide +kernel) rfl
theorem w1178 : (Jvm.Cond.code ({ cls := "CiteForge", name := "kind", desc := "(I)I" } : Jvm.MethodName) prog_1_method_15_code (2 : Nat) (Option.some Jvm.ClassFile.FieldType.int)) ∈ wAll := w_of5 218 (by decide +kernel) rfl
theorem w1179 : (Jvm.Cond.methodLink "CiteForge" (189 : Nat) ({ cls := "CiteForge$Stack", name := "has", desc := "(I)Z" } : Jvm.MethodName)) ∈ wAll := w_of5 219 (by decide +kernel) rfl
theorem w1180 : (Jvm.Cond.instanceMethod ({ cls := "CiteForge$Stack", name := "has", desc := "(I)Z" } : Jvm.MethodName)) ∈ wAll := w_of5 220 (by decide +kernel) rfl
theorem w1181 : (Jvm.Cond.selects "CiteForge$Stack" ({ cls := "CiteForge$Stack", name := "has", desc := "(I)Z" } : Jvm.MethodName) ({ cls := "CiteForge$Stack", name := "has", desc := "(I)Z" } : Jvm.MethodName)) ∈ wAll := w_of5 221 (by decide +kernel) rfl
theorem w1182 : (Jvm.Cond.code ({ cls := "CiteForge$Stack", name := "has", desc := "(I)Z" } : Jvm.MethodName) prog_10_method_3_code (2 : Nat) (Option.some Jvm.ClassFile.FieldType.boolean)) ∈ wAll := w_of5 222 (by decide +kernel) rfl
theorem w1183 : (Jvm.Cond.methodLink "CiteForge" (190 : Nat) ({ cls := "CiteForge$Stack", name := "fromTop", desc := "(I)LCiteForge$Value;" } : Jvm.MethodName)) ∈ wAll := w_of5 223 (by decide +kernel) rfl
theorem w1184 : (Jvm.Cond.instanceMethod ({ cls := "CiteForge$Stack", name := "fromTop", desc := "(I)LCiteForge$Value;" } : Jvm.MethodName)) ∈ wAll := w_of5 224 (by decide +kernel) rfl
theorem w1185 : (Jvm.Cond.selects "CiteForge$Stack" ({ cls := "CiteForge$Stack", name := "fromTop", desc := "(I)LCiteForge$Value;" } : Jvm.MethodName) ({ cls := "CiteForge$Stack", name := "fromTop", desc := "(I)LCiteForge$Value;" } : Jvm.MethodName)) ∈ wAll := w_of5 225 (by decide +kernel) rfl
theorem w1186 : (Jvm.Cond.code ({ cls := "CiteForge$Stack", name := "fromTop", desc := "(I)LCiteForge$Value;" } : Jvm.MethodName) prog_10_method_4_code (2 : Nat) (Option.some (Jvm.ClassFile.FieldType.object "CiteForge$Value"))) ∈ wAll := w_of5 226 (by decide +kernel) rfl
theorem w1190 : (Jvm.Cond.methodLink "CiteForgeLaw" (53 : Nat) ({ cls := "CiteForge", name := "value", desc := "(I)I" } : Jvm.MethodName)) ∈ wAll := w_of5 230 (by decide +kernel) rfl
theorem w1191 : (Jvm.Cond.instanceMethod ({ cls := "CiteForge", name := "value", desc := "(I)I" } : Jvm.MethodName)) ∈ wAll := w_of5 231 (by decide +kernel) rfl
theorem w1192 : (Jvm.Cond.selects "CiteForge" ({ cls := "CiteForge", name := "value", desc := "(I)I" } : Jvm.MethodName) ({ cls := "CiteForge", name := "value", desc := "(I)I" } : Jvm.MethodName)) ∈ wAll := w_of5 232 (by decide +kernel) rfl
theorem w1193 : (Jvm.Cond.code ({ cls := "CiteForge", name := "value", desc := "(I)I" } : Jvm.MethodName) prog_1_method_16_code (3 : Nat) (Option.some Jvm.ClassFile.FieldType.int)) ∈ wAll := w_of5 233 (by decide +kernel) rfl
theorem w1194 : (Jvm.Cond.methodLink "CiteForge" (207 : Nat) ({ cls := "CiteForge$Text", name := "size", desc := "()I" } : Jvm.MethodName)) ∈ wAll := w_of5 234 (by decide +kernel) rfl
theorem w1198 : (Jvm.Cond.methodLink "CiteForgeLaw" (56 : Nat) ({ cls := "CiteForge", name := "letter", desc := "(II)I" } : Jvm.MethodName)) ∈ wAll := w_of5 238 (by decide +kernel) rfl
theorem w1199 : (Jvm.Cond.instanceMethod ({ cls := "CiteForge", name := "letter", desc := "(II)I" } : Jvm.MethodName)) ∈ wAll := w_of5 239 (by decide +kernel) rfl
theorem w1200 : (Jvm.Cond.selects "CiteForge" ({ cls := "CiteForge", name := "letter", desc := "(II)I" } : Jvm.MethodName) ({ cls := "CiteForge", name := "letter", desc := "(II)I" } : Jvm.MethodName)) ∈ wAll := w_of6 0 (by decide +kernel) rfl
theorem w1201 : (Jvm.Cond.code ({ cls := "CiteForge", name := "letter", desc := "(II)I" } : Jvm.MethodName) prog_1_method_17_code (3 : Nat) (Option.some Jvm.ClassFile.FieldType.int)) ∈ wAll := w_of6 1 (by decide +kernel) rfl
theorem w1205 : (Jvm.Cond.methodLink "CiteForgeLaw" (59 : Nat) ({ cls := "CiteForge", name := "line", desc := "(II)I" } : Jvm.MethodName)) ∈ wAll := w_of6 5 (by decide +kernel) rfl
theorem w1206 : (Jvm.Cond.instanceMethod ({ cls := "CiteForge", name := "line", desc := "(II)I" } : Jvm.MethodName)) ∈ wAll := w_of6 6 (by decide +kernel) rfl
theorem w1207 : (Jvm.Cond.selects "CiteForge" ({ cls := "CiteForge", name := "line", desc := "(II)I" } : Jvm.MethodName) ({ cls := "CiteForge", name := "line", desc := "(II)I" } : Jvm.MethodName)) ∈ wAll := w_of6 7 (by decide +kernel) rfl
theorem w1208 : (Jvm.Cond.code ({ cls := "CiteForge", name := "line", desc := "(II)I" } : Jvm.MethodName) prog_1_method_19_code (3 : Nat) (Option.some Jvm.ClassFile.FieldType.int)) ∈ wAll := w_of6 8 (by decide +kernel) rfl
theorem w1209 : (Jvm.Cond.methodLink "CiteForge" (211 : Nat) ({ cls := "CiteForge$Page", name := "isKept", desc := "(I)Z" } : Jvm.MethodName)) ∈ wAll := w_of6 9 (by decide +kernel) rfl
theorem w1210 : (Jvm.Cond.instanceMethod ({ cls := "CiteForge$Page", name := "isKept", desc := "(I)Z" } : Jvm.MethodName)) ∈ wAll := w_of6 10 (by decide +kernel) rfl
theorem w1211 : (Jvm.Cond.selects "CiteForge$Page" ({ cls := "CiteForge$Page", name := "isKept", desc := "(I)Z" } : Jvm.MethodName) ({ cls := "CiteForge$Page", name := "isKept", desc := "(I)Z" } : Jvm.MethodName)) ∈ wAll := w_of6 11 (by decide +kernel) rfl
theorem w1212 : (Jvm.Cond.code ({ cls := "CiteForge$Page", name := "isKept", desc := "(I)Z" } : Jvm.MethodName) prog_6_method_4_code (2 : Nat) (Option.some Jvm.ClassFile.FieldType.boolean)) ∈ wAll := w_of6 12 (by decide +kernel) rfl
theorem w1213 : (Jvm.Cond.methodLink "CiteForge" (214 : Nat) ({ cls := "CiteForge$Page", name := "keptLine", desc := "(I)LCiteForge$Text;" } : Jvm.MethodName)) ∈ wAll := w_of6 13 (by decide +kernel) rfl
theorem w1214 : (Jvm.Cond.instanceMethod ({ cls := "CiteForge$Page", name := "keptLine", desc := "(I)LCiteForge$Text;" } : Jvm.MethodName)) ∈ wAll := w_of6 14 (by decide +kernel) rfl
theorem w1215 : (Jvm.Cond.selects "CiteForge$Page" ({ cls := "CiteForge$Page", name := "keptLine", desc := "(I)LCiteForge$Text;" } : Jvm.MethodName) ({ cls := "CiteForge$Page", name := "keptLine", desc := "(I)LCiteForge$Text;" } : Jvm.MethodName)) ∈ wAll := w_of6 15 (by decide +kernel) rfl
theorem w1216 : (Jvm.Cond.code ({ cls := "CiteForge$Page", name := "keptLine", desc := "(I)LCiteForge$Text;" } : Jvm.MethodName) prog_6_method_5_code (2 : Nat) (Option.some (Jvm.ClassFile.FieldType.object "CiteForge$Text"))) ∈ wAll := w_of6 16 (by decide +kernel) rfl
theorem w1220 : (Jvm.Cond.methodLink "CiteForgeLaw" (62 : Nat) ({ cls := "CiteForge", name := "count", desc := "(I)I" } : Jvm.MethodName)) ∈ wAll := w_of6 20 (by decide +kernel) rfl
theorem w1221 : (Jvm.Cond.instanceMethod ({ cls := "CiteForge", name := "count", desc := "(I)I" } : Jvm.MethodName)) ∈ wAll := w_of6 21 (by decide +kernel) rfl
theorem w1222 : (Jvm.Cond.selects "CiteForge" ({ cls := "CiteForge", name := "count", desc := "(I)I" } : Jvm.MethodName) ({ cls := "CiteForge", name := "count", desc := "(I)I" } : Jvm.MethodName)) ∈ wAll := w_of6 22 (by decide +kernel) rfl
theorem w1223 : (Jvm.Cond.code ({ cls := "CiteForge", name := "count", desc := "(I)I" } : Jvm.MethodName) prog_1_method_20_code (2 : Nat) (Option.some Jvm.ClassFile.FieldType.int)) ∈ wAll := w_of6 23 (by decide +kernel) rfl
theorem w1224 : (Jvm.Cond.methodLink "CiteForge" (218 : Nat) ({ cls := "CiteForge$Page", name := "lineCount", desc := "()I" } : Jvm.MethodName)) ∈ wAll := w_of6 24 (by decide +kernel) rfl
theorem w1225 : (Jvm.Cond.instanceMethod ({ cls := "CiteForge$Page", name := "lineCount", desc := "()I" } : Jvm.MethodName)) ∈ wAll := w_of6 25 (by decide +kernel) rfl
theorem w1226 : (Jvm.Cond.selects "CiteForge$Page" ({ cls := "CiteForge$Page", name := "lineCount", desc := "()I" } : Jvm.MethodName) ({ cls := "CiteForge$Page", name := "lineCount", desc := "()I" } : Jvm.MethodName)) ∈ wAll := w_of6 26 (by decide +kernel) rfl
theorem w1227 : (Jvm.Cond.code ({ cls := "CiteForge$Page", name := "lineCount", desc := "()I" } : Jvm.MethodName) prog_6_method_2_code (1 : Nat) (Option.some Jvm.ClassFile.FieldType.int)) ∈ wAll := w_of6 27 (by decide +kernel) rfl
theorem w1228 : (Jvm.Cond.methodLink "CiteForge" (221 : Nat) ({ cls := "CiteForge$Page", name := "lengthAtHand", desc := "()I" } : Jvm.MethodName)) ∈ wAll := w_of6 28 (by decide +kernel) rfl
theorem w1229 : (Jvm.Cond.instanceMethod ({ cls := "CiteForge$Page", name := "lengthAtHand", desc := "()I" } : Jvm.MethodName)) ∈ wAll := w_of6 29 (by decide +kernel) rfl
theorem w1230 : (Jvm.Cond.selects "CiteForge$Page" ({ cls := "CiteForge$Page", name := "lengthAtHand", desc := "()I" } : Jvm.MethodName) ({ cls := "CiteForge$Page", name := "lengthAtHand", desc := "()I" } : Jvm.MethodName)) ∈ wAll := w_of6 30 (by decide +kernel) rfl
theorem w1231 : (Jvm.Cond.code ({ cls := "CiteForge$Page", name := "lengthAtHand", desc := "()I" } : Jvm.MethodName) prog_6_method_3_code (1 : Nat) (Option.some Jvm.ClassFile.FieldType.int)) ∈ wAll := w_of6 31 (by decide +kernel) rfl
theorem w1232 : (Jvm.Cond.methodLink "CiteForge" (224 : Nat) ({ cls := "CiteForge$Citations", name := "size", desc := "()I" } : Jvm.MethodName)) ∈ wAll := w_of6 32 (by decide +kernel) rfl
theorem w1233 : (Jvm.Cond.instanceMethod ({ cls := "CiteForge$Citations", name := "size", desc := "()I" } : Jvm.MethodName)) ∈ wAll := w_of6 33 (by decide +kernel) rfl
theorem w1234 : (Jvm.Cond.selects "CiteForge$Citations" ({ cls := "CiteForge$Citations", name := "size", desc := "()I" } : Jvm.MethodName) ({ cls := "CiteForge$Citations", name := "size", desc := "()I" } : Jvm.MethodName)) ∈ wAll := w_of6 34 (by decide +kernel) rfl
theorem w1235 : (Jvm.Cond.code ({ cls := "CiteForge$Citations", name := "size", desc := "()I" } : Jvm.MethodName) prog_2_method_2_code (1 : Nat) (Option.some Jvm.ClassFile.FieldType.int)) ∈ wAll := w_of6 35 (by decide +kernel) rfl
theorem w1239 : (Jvm.Cond.methodLink "CiteForgeLaw" (65 : Nat) ({ cls := "CiteForge", name := "warnings", desc := "(I)I" } : Jvm.MethodName)) ∈ wAll := w_of6 39 (by decide +kernel) rfl
theorem w1240 : (Jvm.Cond.instanceMethod ({ cls := "CiteForge", name := "warnings", desc := "(I)I" } : Jvm.MethodName)) ∈ wAll := w_of6 40 (by decide +kernel) rfl
theorem w1241 : (Jvm.Cond.selects "CiteForge" ({ cls := "CiteForge", name := "warnings", desc := "(I)I" } : Jvm.MethodName) ({ cls := "CiteForge", name := "warnings", desc := "(I)I" } : Jvm.MethodName)) ∈ wAll := w_of6 41 (by decide +kernel) rfl
theorem w1242 : (Jvm.Cond.code ({ cls := "CiteForge", name := "warnings", desc := "(I)I" } : Jvm.MethodName) prog_1_method_21_code (2 : Nat) (Option.some Jvm.ClassFile.FieldType.int)) ∈ wAll := w_of6 42 (by decide +kernel) rfl
theorem w1243 : (Jvm.Cond.classLink "CiteForgeLaw" (69 : Nat) "CiteForgeModel") ∈ wAll := w_of6 43 (by decide +kernel) rfl
theorem w1244 : (Jvm.Cond.instantiable "CiteForgeModel" (50 : Nat)) ∈ wAll := w_of6 44 (by decide +kernel) rfl
theorem w1245 : (Jvm.Cond.methodLink "CiteForgeLaw" (71 : Nat) ({ cls := "CiteForgeModel", name := "<init>", desc := "()V" } : Jvm.MethodName)) ∈ wAll := w_of6 45 (by decide +kernel) rfl
theorem w1246 : (Jvm.Cond.instanceMethod ({ cls := "CiteForgeModel", name := "<init>", desc := "()V" } : Jvm.MethodName)) ∈ wAll := w_of6 46 (by decide +kernel) rfl
theorem w1247 : (Jvm.Cond.code ({ cls := "CiteForgeModel", name := "<init>", desc := "()V" } : Jvm.MethodName) prog_14_method_1_code (1 : Nat) (Option.none : Option Jvm.ClassFile.FieldType)) ∈ wAll := w_of6 47 (by decide +kernel) rfl
theorem w1248 : (Jvm.Cond.methodLink "CiteForgeModel" (1 : Nat) ({ cls := "java/lang/Object", name := "<init>", desc := "()V" } : Jvm.MethodName)) ∈ wAll := w_of6 48 (by decide +kernel) rfl
theorem w1249 : (Jvm.Cond.fieldLink "CiteForgeModel" (95 : Nat) "CiteForgeModel" "thrown" "I") ∈ wAll := w_of6 49 (by decide +kernel) rfl
theorem w1250 : (Jvm.Cond.fieldLink "CiteForgeModel" (7 : Nat) "CiteForgeModel" "warnings" "[I") ∈ wAll := w_of6 50 (by decide +kernel) rfl
theorem w1251 : (Jvm.Cond.fieldLink "CiteForgeModel" (131 : Nat) "CiteForgeModel" "length" "I") ∈ wAll := w_of6 51 (by decide +kernel) rfl
theorem w1252 : (Jvm.Cond.fieldLink "CiteForgeModel" (13 : Nat) "CiteForgeModel" "text" "[I") ∈ wAll := w_of6 52 (by decide +kernel) rfl
theorem w1253 : (Jvm.Cond.fieldLink "CiteForgeModel" (16 : Nat) "CiteForgeModel" "sizes" "[I") ∈ wAll := w_of6 53 (by decide +kernel) rfl
theorem w1254 : (Jvm.Cond.fieldLink "CiteForgeModel" (19 : Nat) "CiteForgeModel" "characters" "[I") ∈ wAll := w_of6 54 (by decide +kernel) rfl
theorem w1255 : (Jvm.Cond.fieldLink "CiteForgeModel" (201 : Nat) "CiteForgeModel" "entries" "I") ∈ wAll := w_of6 55 (by decide +kernel) rfl
theorem w1256 : (Jvm.Cond.fieldLink "CiteForgeModel" (22 : Nat) "CiteForgeModel" "keys" "[J") ∈ wAll := w_of6 56 (by decide +kernel) rfl
theorem w1257 : (Jvm.Cond.fieldLink "CiteForgeModel" (26 : Nat) "CiteForgeModel" "types" "[J") ∈ wAll := w_of6 57 (by decide +kernel) rfl
theorem w1258 : (Jvm.Cond.fieldLink "CiteForgeModel" (29 : Nat) "CiteForgeModel" "fieldCounts" "[I") ∈ wAll := w_of6 58 (by decide +kernel) rfl
theorem w1259 : (Jvm.Cond.fieldLink "CiteForgeModel" (32 : Nat) "CiteForgeModel" "fieldWords" "[J") ∈ wAll := w_of6 59 (by decide +kernel) rfl
theorem w1260 : (Jvm.Cond.fieldLink "CiteForgeModel" (165 : Nat) "CiteForgeModel" "strings" "I") ∈ wAll := w_of6 60 (by decide +kernel) rfl
theorem w1261 : (Jvm.Cond.fieldLink "CiteForgeModel" (35 : Nat) "CiteForgeModel" "stringWords" "[J") ∈ wAll := w_of6 61 (by decide +kernel) rfl
theorem w1262 : (Jvm.Cond.fieldLink "CiteForgeModel" (228 : Nat) "CiteForgeModel" "cited" "I") ∈ wAll := w_of6 62 (by decide +kernel) rfl
theorem w1263 : (Jvm.Cond.fieldLink "CiteForgeModel" (38 : Nat) "CiteForgeModel" "citations" "[J") ∈ wAll := w_of6 63 (by decide +kernel) rfl
theorem w1264 : (Jvm.Cond.fieldLink "CiteForgeModel" (210 : Nat) "CiteForgeModel" "listed" "I") ∈ wAll := w_of6 64 (by decide +kernel) rfl
theorem w1265 : (Jvm.Cond.fieldLink "CiteForgeModel" (41 : Nat) "CiteForgeModel" "list" "[I") ∈ wAll := w_of6 65 (by decide +kernel) rfl
theorem w1266 : (Jvm.Cond.fieldLink "CiteForgeModel" (134 : Nat) "CiteForgeModel" "at" "I") ∈ wAll := w_of6 66 (by decide +kernel) rfl
theorem w1267 : (Jvm.Cond.fieldLink "CiteForgeModel" (140 : Nat) "CiteForgeModel" "wrong" "Z") ∈ wAll := w_of6 67 (by decide +kernel) rfl
theorem w1268 : (Jvm.Cond.fieldLink "CiteForgeModel" (162 : Nat) "CiteForgeModel" "blank" "Z") ∈ wAll := w_of6 68 (by decide +kernel) rfl
theorem w1269 : (Jvm.Cond.fieldLink "CiteForgeModel" (159 : Nat) "CiteForgeModel" "fed" "I") ∈ wAll := w_of6 69 (by decide +kernel) rfl
theorem w1270 : (Jvm.Cond.fieldLink "CiteForgeModel" (147 : Nat) "CiteForgeModel" "faults" "I") ∈ wAll := w_of6 70 (by decide +kernel) rfl
theorem w1271 : (Jvm.Cond.fieldLink "CiteForgeModel" (44 : Nat) "CiteForgeModel" "counts" "[I") ∈ wAll := w_of6 71 (by decide +kernel) rfl
theorem w1272 : (Jvm.Cond.fieldLink "CiteForgeModel" (47 : Nat) "CiteForgeModel" "operations" "[I") ∈ wAll := w_of6 72 (by decide +kernel) rfl
theorem w1273 : (Jvm.Cond.fieldLink "CiteForgeModel" (50 : Nat) "CiteForgeModel" "numbers" "[J") ∈ wAll := w_of6 73 (by decide +kernel) rfl
theorem w1274 : (Jvm.Cond.fieldLink "CiteForgeModel" (53 : Nat) "CiteForgeModel" "globals" "[I") ∈ wAll := w_of6 74 (by decide +kernel) rfl
theorem w1275 : (Jvm.Cond.fieldLink "CiteForgeModel" (250 : Nat) "CiteForgeModel" "depth" "I") ∈ wAll := w_of6 75 (by decide +kernel) rfl
theorem w1276 : (Jvm.Cond.fieldLink "CiteForgeModel" (56 : Nat) "CiteForgeModel" "kinds" "[I") ∈ wAll := w_of6 76 (by decide +kernel) rfl
theorem w1277 : (Jvm.Cond.fieldLink "CiteForgeModel" (59 : Nat) "CiteForgeModel" "values" "[I") ∈ wAll := w_of6 77 (by decide +kernel) rfl
theorem w1278 : (Jvm.Cond.fieldLink "CiteForgeModel" (383 : Nat) "CiteForgeModel" "deep" "I") ∈ wAll := w_of6 78 (by decide +kernel) rfl
theorem w1279 : (Jvm.Cond.fieldLink "CiteForgeModel" (389 : Nat) "CiteForgeModel" "done" "I") ∈ wAll := w_of6 79 (by decide +kernel) rfl
theorem w1280 : (Jvm.Cond.fieldLink "CiteForgeModel" (279 : Nat) "CiteForgeModel" "hand" "I") ∈ wAll := w_of6 80 (by decide +kernel) rfl
theorem w1281 : (Jvm.Cond.fieldLink "CiteForgeModel" (386 : Nat) "CiteForgeModel" "much" "Z") ∈ wAll := w_of6 81 (by decide +kernel) rfl
theorem w1282 : (Jvm.Cond.fieldLink "CiteForgeModel" (62 : Nat) "CiteForgeModel" "functions" "[I") ∈ wAll := w_of6 82 (by decide +kernel) rfl
theorem w1283 : (Jvm.Cond.fieldLink "CiteForgeModel" (65 : Nat) "CiteForgeModel" "places" "[I") ∈ wAll := w_of6 83 (by decide +kernel) rfl
theorem w1284 : (Jvm.Cond.fieldLink "CiteForgeModel" (68 : Nat) "CiteForgeModel" "why" "[I") ∈ wAll := w_of6 84 (by decide +kernel) rfl
theorem w1285 : (Jvm.Cond.fieldLink "CiteForgeModel" (71 : Nat) "CiteForgeModel" "loops" "[J") ∈ wAll := w_of6 85 (by decide +kernel) rfl
theorem w1286 : (Jvm.Cond.fieldLink "CiteForgeModel" (348 : Nat) "CiteForgeModel" "words" "I") ∈ wAll := w_of6 86 (by decide +kernel) rfl
theorem w1287 : (Jvm.Cond.fieldLink "CiteForgeModel" (351 : Nat) "CiteForgeModel" "parts" "I") ∈ wAll := w_of6 87 (by decide +kernel) rfl
theorem w1288 : (Jvm.Cond.fieldLink "CiteForgeModel" (74 : Nat) "CiteForgeModel" "from" "[I") ∈ wAll := w_of6 88 (by decide +kernel) rfl
theorem w1289 : (Jvm.Cond.fieldLink "CiteForgeModel" (77 : Nat) "CiteForgeModel" "to" "[I") ∈ wAll := w_of6 89 (by decide +kernel) rfl
theorem w1290 : (Jvm.Cond.fieldLink "CiteForgeModel" (80 : Nat) "CiteForgeModel" "part" "[I") ∈ wAll := w_of6 90 (by decide +kernel) rfl
theorem w1291 : (Jvm.Cond.fieldLink "CiteForgeModel" (83 : Nat) "CiteForgeModel" "role" "[I") ∈ wAll := w_of6 91 (by decide +kernel) rfl
theorem w1292 : (Jvm.Cond.fieldLink "CiteForgeModel" (357 : Nat) "CiteForgeModel" "begun" "Z") ∈ wAll := w_of6 92 (by decide +kernel) rfl
theorem w1293 : (Jvm.Cond.fieldLink "CiteForgeModel" (377 : Nat) "CiteForgeModel" "lines" "I") ∈ wAll := w_of6 93 (by decide +kernel) rfl
theorem w1294 : (Jvm.Cond.fieldLink "CiteForgeModel" (316 : Nat) "CiteForgeModel" "size" "I") ∈ wAll := w_of6 94 (by decide +kernel) rfl
theorem w1295 : (Jvm.Cond.fieldLink "CiteForgeModel" (86 : Nat) "CiteForgeModel" "line" "[I") ∈ wAll := w_of6 95 (by decide +kernel) rfl
theorem w1296 : (Jvm.Cond.fieldLink "CiteForgeModel" (89 : Nat) "CiteForgeModel" "lineSizes" "[I") ∈ wAll := w_of6 96 (by decide +kernel) rfl
theorem w1297 : (Jvm.Cond.fieldLink "CiteForgeModel" (92 : Nat) "CiteForgeModel" "kept" "[I") ∈ wAll := w_of6 97 (by decide +kernel) rfl
theorem w1298 : (Jvm.Cond.fieldLink "CiteForgeModel" (257 : Nat) "CiteForgeModel" "held" "I") ∈ wAll := w_of6 98 (by decide +kernel) rfl
theorem w1299 : (Jvm.Cond.lays "CiteForgeModel" "CiteForgeModel" "thrown" "I") ∈ wAll := w_of6 99 (by decide +kernel) rfl
theorem w1301 : (Jvm.Cond.laysFinal "CiteForgeModel" "CiteForgeModel" "warnings" "[I") ∈ wAll := w_of6 101 (by decide +kernel) rfl
theorem w1303 : (Jvm.Cond.lays "CiteForgeModel" "CiteForgeModel" "length" "I") ∈ wAll := w_of6 103 (by decide +kernel) rfl
theorem w1305 : (Jvm.Cond.laysFinal "CiteForgeModel" "CiteForgeModel" "text" "[I") ∈ wAll := w_of6 105 (by decide +kernel) rfl
theorem w1307 : (Jvm.Cond.laysFinal "CiteForgeModel" "CiteForgeModel" "sizes" "[I") ∈ wAll := w_of6 107 (by decide +kernel) rfl
theorem w1309 : (Jvm.Cond.laysFinal "CiteForgeModel" "CiteForgeModel" "characters" "[I") ∈ wAll := w_of6 109 (by decide +kernel) rfl
theorem w1311 : (Jvm.Cond.lays "CiteForgeModel" "CiteForgeModel" "entries" "I") ∈ wAll := w_of6 111 (by decide +kernel) rfl
theorem w1313 : (Jvm.Cond.laysFinal "CiteForgeModel" "CiteForgeModel" "keys" "[J") ∈ wAll := w_of6 113 (by decide +kernel) rfl
theorem w1315 : (Jvm.Cond.laysFinal "CiteForgeModel" "CiteForgeModel" "types" "[J") ∈ wAll := w_of6 115 (by decide +kernel) rfl
theorem w1317 : (Jvm.Cond.laysFinal "CiteForgeModel" "CiteForgeModel" "fieldCounts" "[I") ∈ wAll := w_of6 117 (by decide +kernel) rfl
theorem w1319 : (Jvm.Cond.laysFinal "CiteForgeModel" "CiteForgeModel" "fieldWords" "[J") ∈ wAll := w_of6 119 (by decide +kernel) rfl
theorem w1321 : (Jvm.Cond.lays "CiteForgeModel" "CiteForgeModel" "strings" "I") ∈ wAll := w_of6 121 (by decide +kernel) rfl
theorem w1323 : (Jvm.Cond.laysFinal "CiteForgeModel" "CiteForgeModel" "stringWords" "[J") ∈ wAll := w_of6 123 (by decide +kernel) rfl
theorem w1325 : (Jvm.Cond.lays "CiteForgeModel" "CiteForgeModel" "cited" "I") ∈ wAll := w_of6 125 (by decide +kernel) rfl
theorem w1327 : (Jvm.Cond.laysFinal "CiteForgeModel" "CiteForgeModel" "citations" "[J") ∈ wAll := w_of6 127 (by decide +kernel) rfl
theorem w1329 : (Jvm.Cond.lays "CiteForgeModel" "CiteForgeModel" "listed" "I") ∈ wAll := w_of6 129 (by decide +kernel) rfl
theorem w1331 : (Jvm.Cond.laysFinal "CiteForgeModel" "CiteForgeModel" "list" "[I") ∈ wAll := w_of6 131 (by decide +kernel) rfl
theorem w1333 : (Jvm.Cond.lays "CiteForgeModel" "CiteForgeModel" "at" "I") ∈ wAll := w_of6 133 (by decide +kernel) rfl
theorem w1335 : (Jvm.Cond.lays "CiteForgeModel" "CiteForgeModel" "wrong" "Z") ∈ wAll := w_of6 135 (by decide +kernel) rfl
theorem w1337 : (Jvm.Cond.lays "CiteForgeModel" "CiteForgeModel" "blank" "Z") ∈ wAll := w_of6 137 (by decide +kernel) rfl
theorem w1339 : (Jvm.Cond.lays "CiteForgeModel" "CiteForgeModel" "fed" "I") ∈ wAll := w_of6 139 (by decide +kernel) rfl
theorem w1341 : (Jvm.Cond.lays "CiteForgeModel" "CiteForgeModel" "faults" "I") ∈ wAll := w_of6 141 (by decide +kernel) rfl
theorem w1343 : (Jvm.Cond.laysFinal "CiteForgeModel" "CiteForgeModel" "counts" "[I") ∈ wAll := w_of6 143 (by decide +kernel) rfl
theorem w1345 : (Jvm.Cond.laysFinal "CiteForgeModel" "CiteForgeModel" "operations" "[I") ∈ wAll := w_of6 145 (by decide +kernel) rfl
theorem w1347 : (Jvm.Cond.laysFinal "CiteForgeModel" "CiteForgeModel" "numbers" "[J") ∈ wAll := w_of6 147 (by decide +kernel) rfl
theorem w1349 : (Jvm.Cond.laysFinal "CiteForgeModel" "CiteForgeModel" "globals" "[I") ∈ wAll := w_of6 149 (by decide +kernel) rfl
theorem w1351 : (Jvm.Cond.lays "CiteForgeModel" "CiteForgeModel" "depth" "I") ∈ wAll := w_of6 151 (by decide +kernel) rfl
theorem w1353 : (Jvm.Cond.laysFinal "CiteForgeModel" "CiteForgeModel" "kinds" "[I") ∈ wAll := w_of6 153 (by decide +kernel) rfl
theorem w1355 : (Jvm.Cond.laysFinal "CiteForgeModel" "CiteForgeModel" "values" "[I") ∈ wAll := w_of6 155 (by decide +kernel) rfl
theorem w1357 : (Jvm.Cond.lays "CiteForgeModel" "CiteForgeModel" "deep" "I") ∈ wAll := w_of6 157 (by decide +kernel) rfl
theorem w1359 : (Jvm.Cond.lays "CiteForgeModel" "CiteForgeModel" "done" "I") ∈ wAll := w_of6 159 (by decide +kernel) rfl
theorem w1361 : (Jvm.Cond.lays "CiteForgeModel" "CiteForgeModel" "hand" "I") ∈ wAll := w_of6 161 (by decide +kernel) rfl
theorem w1363 : (Jvm.Cond.lays "CiteForgeModel" "CiteForgeModel" "much" "Z") ∈ wAll := w_of6 163 (by decide +kernel) rfl
theorem w1365 : (Jvm.Cond.laysFinal "CiteForgeModel" "CiteForgeModel" "functions" "[I") ∈ wAll := w_of6 165 (by decide +kernel) rfl
theorem w1367 : (Jvm.Cond.laysFinal "CiteForgeModel" "CiteForgeModel" "places" "[I") ∈ wAll := w_of6 167 (by decide +kernel) rfl
theorem w1369 : (Jvm.Cond.laysFinal "CiteForgeModel" "CiteForgeModel" "why" "[I") ∈ wAll := w_of6 169 (by decide +kernel) rfl
theorem w1371 : (Jvm.Cond.laysFinal "CiteForgeModel" "CiteForgeModel" "loops" "[J") ∈ wAll := w_of6 171 (by decide +kernel) rfl
theorem w1373 : (Jvm.Cond.lays "CiteForgeModel" "CiteForgeModel" "words" "I") ∈ wAll := w_of6 173 (by decide +kernel) rfl
theorem w1375 : (Jvm.Cond.lays "CiteForgeModel" "CiteForgeModel" "parts" "I") ∈ wAll := w_of6 175 (by decide +kernel) rfl
theorem w1377 : (Jvm.Cond.laysFinal "CiteForgeModel" "CiteForgeModel" "from" "[I") ∈ wAll := w_of6 177 (by decide +kernel) rfl
theorem w1379 : (Jvm.Cond.laysFinal "CiteForgeModel" "CiteForgeModel" "to" "[I") ∈ wAll := w_of6 179 (by decide +kernel) rfl
theorem w1381 : (Jvm.Cond.laysFinal "CiteForgeModel" "CiteForgeModel" "part" "[I") ∈ wAll := w_of6 181 (by decide +kernel) rfl
theorem w1383 : (Jvm.Cond.laysFinal "CiteForgeModel" "CiteForgeModel" "role" "[I") ∈ wAll := w_of6 183 (by decide +kernel) rfl
theorem w1385 : (Jvm.Cond.lays "CiteForgeModel" "CiteForgeModel" "begun" "Z") ∈ wAll := w_of6 185 (by decide +kernel) rfl
theorem w1387 : (Jvm.Cond.lays "CiteForgeModel" "CiteForgeModel" "lines" "I") ∈ wAll := w_of6 187 (by decide +kernel) rfl
theorem w1389 : (Jvm.Cond.lays "CiteForgeModel" "CiteForgeModel" "size" "I") ∈ wAll := w_of6 189 (by decide +kernel) rfl
theorem w1391 : (Jvm.Cond.laysFinal "CiteForgeModel" "CiteForgeModel" "line" "[I") ∈ wAll := w_of6 191 (by decide +kernel) rfl
theorem w1393 : (Jvm.Cond.laysFinal "CiteForgeModel" "CiteForgeModel" "lineSizes" "[I") ∈ wAll := w_of6 193 (by decide +kernel) rfl
theorem w1395 : (Jvm.Cond.laysFinal "CiteForgeModel" "CiteForgeModel" "kept" "[I") ∈ wAll := w_of6 195 (by decide +kernel) rfl
theorem w1397 : (Jvm.Cond.lays "CiteForgeModel" "CiteForgeModel" "held" "I") ∈ wAll := w_of6 197 (by decide +kernel) rfl
theorem w1400 : (Jvm.Cond.methodLink "CiteForgeLaw" (80 : Nat) ({ cls := "CiteForgeModel", name := "thrown", desc := "()I" } : Jvm.MethodName)) ∈ wAll := w_of6 200 (by decide +kernel) rfl
theorem w1401 : (Jvm.Cond.instanceMethod ({ cls := "CiteForgeModel", name := "thrown", desc := "()I" } : Jvm.MethodName)) ∈ wAll := w_of6 201 (by decide +kernel) rfl
theorem w1402 : (Jvm.Cond.selects "CiteForgeModel" ({ cls := "CiteForgeModel", name := "thrown", desc := "()I" } : Jvm.MethodName) ({ cls := "CiteForgeModel", name := "thrown", desc := "()I" } : Jvm.MethodName)) ∈ wAll := w_of6 202 (by decide +kernel) rfl
theorem w1403 : (Jvm.Cond.code ({ cls := "CiteForgeModel", name := "thrown", desc := "()I" } : Jvm.MethodName) prog_14_method_2_code (1 : Nat) (Option.some Jvm.ClassFile.FieldType.int)) ∈ wAll := w_of6 203 (by decide +kernel) rfl
theorem w1404 : (Jvm.Cond.methodLink "CiteForgeLaw" (79 : Nat) ({ cls := "CiteForgeModel", name := "write", desc := "(JI)I" } : Jvm.MethodName)) ∈ wAll := w_of6 204 (by decide +kernel) rfl
theorem w1405 : (Jvm.Cond.instanceMethod ({ cls := "CiteForgeModel", name := "write", desc := "(JI)I" } : Jvm.MethodName)) ∈ wAll := w_of6 205 (by decide +kernel) rfl
theorem w1406 : (Jvm.Cond.selects "CiteForgeModel" ({ cls := "CiteForgeModel", name := "write", desc := "(JI)I" } : Jvm.MethodName) ({ cls := "CiteForgeModel", name := "write", desc := "(JI)I" } : Jvm.MethodName)) ∈ wAll := w_of6 206 (by decide +kernel) rfl
theorem w1407 : (Jvm.Cond.code ({ cls := "CiteForgeModel", name := "write", desc := "(JI)I" } : Jvm.MethodName) prog_14_method_18_code (7 : Nat) (Option.some Jvm.ClassFile.FieldType.int)) ∈ wAll := w_of6 207 (by decide +kernel) rfl
theorem w1408 : (Jvm.Cond.methodLink "CiteForgeModel" (103 : Nat) ({ cls := "CiteForgeModel", name := "within", desc := "(III)Z" } : Jvm.MethodName)) ∈ wAll := w_of6 208 (by decide +kernel) rfl
theorem w1409 : (Jvm.Cond.static ({ cls := "CiteForgeModel", name := "within", desc := "(III)Z" } : Jvm.MethodName)) ∈ wAll := w_of6 209 (by decide +kernel) rfl
theorem w1410 : (Jvm.Cond.code ({ cls := "CiteForgeModel", name := "within", desc := "(III)Z" } : Jvm.MethodName) prog_14_method_4_code (3 : Nat) (Option.some Jvm.ClassFile.FieldType.boolean)) ∈ wAll := w_of6 210 (by decide +kernel) rfl
theorem w1411 : (Jvm.Cond.methodLink "CiteForgeModel" (128 : Nat) ({ cls := "CiteForgeModel", name := "fail", desc := "(I)I" } : Jvm.MethodName)) ∈ wAll := w_of6 211 (by decide +kernel) rfl
theorem w1413 : (Jvm.Cond.instanceMethod ({ cls := "CiteForgeModel", name := "fail", desc := "(I)I" } : Jvm.MethodName)) ∈ wAll := w_of6 213 (by decide +kernel) rfl
theorem w1414 : (Jvm.Cond.code ({ cls := "CiteForgeModel", name := "fail", desc := "(I)I" } : Jvm.MethodName) prog_14_method_3_code (2 : Nat) (Option.some Jvm.ClassFile.FieldType.int)) ∈ wAll := w_of6 214 (by decide +kernel) rfl
theorem w1415 : (Jvm.Cond.constantLong "CiteForgeModel" (114 : Nat) (255 : Int64)) ∈ wAll := w_of6 215 (by decide +kernel) rfl
theorem w1416 : (Jvm.Cond.methodLink "CiteForgeLaw" (87 : Nat) ({ cls := "CiteForgeModel", name := "erase", desc := "()I" } : Jvm.MethodName)) ∈ wAll := w_of6 216 (by decide +kernel) rfl
theorem w1417 : (Jvm.Cond.instanceMethod ({ cls := "CiteForgeModel", name := "erase", desc := "()I" } : Jvm.MethodName)) ∈ wAll := w_of6 217 (by decide +kernel) rfl
theorem w1418 : (Jvm.Cond.selects "CiteForgeModel" ({ cls := "CiteForgeModel", name := "erase", desc := "()I" } : Jvm.MethodName) ({ cls := "CiteForgeModel", name := "erase", desc := "()I" } : Jvm.MethodName)) ∈ wAll := w_of6 218 (by decide +kernel) rfl
theorem w1419 : (Jvm.Cond.code ({ cls := "CiteForgeModel", name := "erase", desc := "()I" } : Jvm.MethodName) prog_14_method_19_code (2 : Nat) (Option.some Jvm.ClassFile.FieldType.int)) ∈ wAll := w_of6 219 (by decide +kernel) rfl
theorem w1420 : (Jvm.Cond.methodLink "CiteForgeLaw" (91 : Nat) ({ cls := "CiteForgeModel", name := "read", desc := "()I" } : Jvm.MethodName)) ∈ wAll := w_of6 220 (by decide +kernel) rfl
theorem w1421 : (Jvm.Cond.instanceMethod ({ cls := "CiteForgeModel", name := "read", desc := "()I" } : Jvm.MethodName)) ∈ wAll := w_of6 221 (by decide +kernel) rfl
theorem w1422 : (Jvm.Cond.selects "CiteForgeModel" ({ cls := "CiteForgeModel", name := "read", desc := "()I" } : Jvm.MethodName) ({ cls := "CiteForgeModel", name := "read", desc := "()I" } : Jvm.MethodName)) ∈ wAll := w_of6 222 (by decide +kernel) rfl
theorem w1423 : (Jvm.Cond.code ({ cls := "CiteForgeModel", name := "read", desc := "()I" } : Jvm.MethodName) prog_14_method_36_code (4 : Nat) (Option.some Jvm.ClassFile.FieldType.int)) ∈ wAll := w_of6 223 (by decide +kernel) rfl
theorem w1424 : (Jvm.Cond.methodLink "CiteForgeModel" (177 : Nat) ({ cls := "CiteForgeModel", name := "word", desc := "()J" } : Jvm.MethodName)) ∈ wAll := w_of6 224 (by decide +kernel) rfl
theorem w1426 : (Jvm.Cond.instanceMethod ({ cls := "CiteForgeModel", name := "word", desc := "()J" } : Jvm.MethodName)) ∈ wAll := w_of6 226 (by decide +kernel) rfl
theorem w1427 : (Jvm.Cond.code ({ cls := "CiteForgeModel", name := "word", desc := "()J" } : Jvm.MethodName) prog_14_method_24_code (4 : Nat) (Option.some Jvm.ClassFile.FieldType.long)) ∈ wAll := w_of6 227 (by decide +kernel) rfl
theorem w1428 : (Jvm.Cond.methodLink "CiteForgeModel" (150 : Nat) ({ cls := "CiteForgeModel", name := "blanks", desc := "()V" } : Jvm.MethodName)) ∈ wAll := w_of6 228 (by decide +kernel) rfl
theorem w1430 : (Jvm.Cond.instanceMethod ({ cls := "CiteForgeModel", name := "blanks", desc := "()V" } : Jvm.MethodName)) ∈ wAll := w_of6 230 (by decide +kernel) rfl
theorem w1431 : (Jvm.Cond.code ({ cls := "CiteForgeModel", name := "blanks", desc := "()V" } : Jvm.MethodName) prog_14_method_21_code (1 : Nat) (Option.none : Option Jvm.ClassFile.FieldType)) ∈ wAll := w_of6 231 (by decide +kernel) rfl
theorem w1432 : (Jvm.Cond.methodLink "CiteForgeModel" (136 : Nat) ({ cls := "CiteForgeModel", name := "here", desc := "()I" } : Jvm.MethodName)) ∈ wAll := w_of6 232 (by decide +kernel) rfl
theorem w1434 : (Jvm.Cond.instanceMethod ({ cls := "CiteForgeModel", name := "here", desc := "()I" } : Jvm.MethodName)) ∈ wAll := w_of6 234 (by decide +kernel) rfl
theorem w1435 : (Jvm.Cond.code ({ cls := "CiteForgeModel", name := "here", desc := "()I" } : Jvm.MethodName) prog_14_method_20_code (1 : Nat) (Option.some Jvm.ClassFile.FieldType.int)) ∈ wAll := w_of6 235 (by decide +kernel) rfl
theorem w1436 : (Jvm.Cond.methodLink "CiteForgeModel" (156 : Nat) ({ cls := "CiteForgeModel", name := "isWord", desc := "(I)Z" } : Jvm.MethodName)) ∈ wAll := w_of6 236 (by decide +kernel) rfl
theorem w1437 : (Jvm.Cond.static ({ cls := "CiteForgeModel", name := "isWord", desc := "(I)Z" } : Jvm.MethodName)) ∈ wAll := w_of6 237 (by decide +kernel) rfl
theorem w1438 : (Jvm.Cond.code ({ cls := "CiteForgeModel", name := "isWord", desc := "(I)Z" } : Jvm.MethodName) prog_14_method_14_code (1 : Nat) (Option.some Jvm.ClassFile.FieldType.boolean)) ∈ wAll := w_of6 238 (by decide +kernel) rfl
theorem w1439 : (Jvm.Cond.methodLink "CiteForgeModel" (107 : Nat) ({ cls := "CiteForgeModel", name := "isLetter", desc := "(I)Z" } : Jvm.MethodName)) ∈ wAll := w_of6 239 (by decide +kernel) rfl
theorem w1440 : (Jvm.Cond.static ({ cls := "CiteForgeModel", name := "isLetter", desc := "(I)Z" } : Jvm.MethodName)) ∈ wAll := w_of7 0 (by decide +kernel) rfl
theorem w1441 : (Jvm.Cond.code ({ cls := "CiteForgeModel", name := "isLetter", desc := "(I)Z" } : Jvm.MethodName) prog_14_method_10_code (1 : Nat) (Option.some Jvm.ClassFile.FieldType.boolean)) ∈ wAll := w_of7 1 (by decide +kernel) rfl
theorem w1442 : (Jvm.Cond.methodLink "CiteForgeModel" (111 : Nat) ({ cls := "CiteForgeModel", name := "digit", desc := "(I)Z" } : Jvm.MethodName)) ∈ wAll := w_of7 2 (by decide +kernel) rfl
theorem w1443 : (Jvm.Cond.static ({ cls := "CiteForgeModel", name := "digit", desc := "(I)Z" } : Jvm.MethodName)) ∈ wAll := w_of7 3 (by decide +kernel) rfl
theorem w1444 : (Jvm.Cond.code ({ cls := "CiteForgeModel", name := "digit", desc := "(I)Z" } : Jvm.MethodName) prog_14_method_11_code (1 : Nat) (Option.some Jvm.ClassFile.FieldType.boolean)) ∈ wAll := w_of7 4 (by decide +kernel) rfl
theorem w1445 : (Jvm.Cond.methodLink "CiteForgeModel" (116 : Nat) ({ cls := "CiteForgeModel", name := "small", desc := "(I)I" } : Jvm.MethodName)) ∈ wAll := w_of7 5 (by decide +kernel) rfl
theorem w1446 : (Jvm.Cond.static ({ cls := "CiteForgeModel", name := "small", desc := "(I)I" } : Jvm.MethodName)) ∈ wAll := w_of7 6 (by decide +kernel) rfl
theorem w1447 : (Jvm.Cond.code ({ cls := "CiteForgeModel", name := "small", desc := "(I)I" } : Jvm.MethodName) prog_14_method_12_code (1 : Nat) (Option.some Jvm.ClassFile.FieldType.int)) ∈ wAll := w_of7 7 (by decide +kernel) rfl
theorem w1448 : (Jvm.Cond.methodLink "CiteForgeModel" (153 : Nat) ({ cls := "CiteForgeModel", name := "other", desc := "()V" } : Jvm.MethodName)) ∈ wAll := w_of7 8 (by decide +kernel) rfl
theorem w1450 : (Jvm.Cond.instanceMethod ({ cls := "CiteForgeModel", name := "other", desc := "()V" } : Jvm.MethodName)) ∈ wAll := w_of7 10 (by decide +kernel) rfl
theorem w1451 : (Jvm.Cond.code ({ cls := "CiteForgeModel", name := "other", desc := "()V" } : Jvm.MethodName) prog_14_method_22_code (1 : Nat) (Option.none : Option Jvm.ClassFile.FieldType)) ∈ wAll := w_of7 11 (by decide +kernel) rfl
theorem w1452 : (Jvm.Cond.methodLink "CiteForgeModel" (144 : Nat) ({ cls := "CiteForgeModel", name := "warn", desc := "(I)V" } : Jvm.MethodName)) ∈ wAll := w_of7 12 (by decide +kernel) rfl
theorem w1454 : (Jvm.Cond.instanceMethod ({ cls := "CiteForgeModel", name := "warn", desc := "(I)V" } : Jvm.MethodName)) ∈ wAll := w_of7 14 (by decide +kernel) rfl
theorem w1455 : (Jvm.Cond.code ({ cls := "CiteForgeModel", name := "warn", desc := "(I)V" } : Jvm.MethodName) prog_14_method_5_code (2 : Nat) (Option.none : Option Jvm.ClassFile.FieldType)) ∈ wAll := w_of7 15 (by decide +kernel) rfl
theorem w1456 : (Jvm.Cond.methodLink "CiteForgeModel" (188 : Nat) ({ cls := "CiteForgeModel", name := "expect", desc := "(I)V" } : Jvm.MethodName)) ∈ wAll := w_of7 16 (by decide +kernel) rfl
theorem w1458 : (Jvm.Cond.instanceMethod ({ cls := "CiteForgeModel", name := "expect", desc := "(I)V" } : Jvm.MethodName)) ∈ wAll := w_of7 18 (by decide +kernel) rfl
theorem w1459 : (Jvm.Cond.code ({ cls := "CiteForgeModel", name := "expect", desc := "(I)V" } : Jvm.MethodName) prog_14_method_23_code (2 : Nat) (Option.none : Option Jvm.ClassFile.FieldType)) ∈ wAll := w_of7 19 (by decide +kernel) rfl
theorem w1460 : (Jvm.Cond.constantLong "CiteForgeModel" (213 : Nat) (113723913172083 : Int64)) ∈ wAll := w_of7 20 (by decide +kernel) rfl
theorem w1461 : (Jvm.Cond.methodLink "CiteForgeModel" (215 : Nat) ({ cls := "CiteForgeModel", name := "string", desc := "()V" } : Jvm.MethodName)) ∈ wAll := w_of7 21 (by decide +kernel) rfl
theorem w1463 : (Jvm.Cond.instanceMethod ({ cls := "CiteForgeModel", name := "string", desc := "()V" } : Jvm.MethodName)) ∈ wAll := w_of7 23 (by decide +kernel) rfl
theorem w1464 : (Jvm.Cond.code ({ cls := "CiteForgeModel", name := "string", desc := "()V" } : Jvm.MethodName) prog_14_method_31_code (4 : Nat) (Option.none : Option Jvm.ClassFile.FieldType)) ∈ wAll := w_of7 24 (by decide +kernel) rfl
theorem w1465 : (Jvm.Cond.methodLink "CiteForgeModel" (191 : Nat) ({ cls := "CiteForgeModel", name := "readValue", desc := "()V" } : Jvm.MethodName)) ∈ wAll := w_of7 25 (by decide +kernel) rfl
theorem w1467 : (Jvm.Cond.instanceMethod ({ cls := "CiteForgeModel", name := "readValue", desc := "()V" } : Jvm.MethodName)) ∈ wAll := w_of7 27 (by decide +kernel) rfl
theorem w1468 : (Jvm.Cond.code ({ cls := "CiteForgeModel", name := "readValue", desc := "()V" } : Jvm.MethodName) prog_14_method_30_code (2 : Nat) (Option.none : Option Jvm.ClassFile.FieldType)) ∈ wAll := w_of7 28 (by decide +kernel) rfl
theorem w1469 : (Jvm.Cond.methodLink "CiteForgeModel" (120 : Nat) ({ cls := "CiteForgeModel", name := "clearText", desc := "(I)V" } : Jvm.MethodName)) ∈ wAll := w_of7 29 (by decide +kernel) rfl
theorem w1471 : (Jvm.Cond.instanceMethod ({ cls := "CiteForgeModel", name := "clearText", desc := "(I)V" } : Jvm.MethodName)) ∈ wAll := w_of7 31 (by decide +kernel) rfl
theorem w1472 : (Jvm.Cond.code ({ cls := "CiteForgeModel", name := "clearText", desc := "(I)V" } : Jvm.MethodName) prog_14_method_7_code (2 : Nat) (Option.none : Option Jvm.ClassFile.FieldType)) ∈ wAll := w_of7 32 (by decide +kernel) rfl
theorem w1473 : (Jvm.Cond.methodLink "CiteForgeModel" (185 : Nat) ({ cls := "CiteForgeModel", name := "piece", desc := "()V" } : Jvm.MethodName)) ∈ wAll := w_of7 33 (by decide +kernel) rfl
theorem w1475 : (Jvm.Cond.instanceMethod ({ cls := "CiteForgeModel", name := "piece", desc := "()V" } : Jvm.MethodName)) ∈ wAll := w_of7 35 (by decide +kernel) rfl
theorem w1476 : (Jvm.Cond.code ({ cls := "CiteForgeModel", name := "piece", desc := "()V" } : Jvm.MethodName) prog_14_method_29_code (6 : Nat) (Option.none : Option Jvm.ClassFile.FieldType)) ∈ wAll := w_of7 36 (by decide +kernel) rfl
theorem w1477 : (Jvm.Cond.methodLink "CiteForgeModel" (168 : Nat) ({ cls := "CiteForgeModel", name := "feed", desc := "(I)V" } : Jvm.MethodName)) ∈ wAll := w_of7 37 (by decide +kernel) rfl
theorem w1479 : (Jvm.Cond.instanceMethod ({ cls := "CiteForgeModel", name := "feed", desc := "(I)V" } : Jvm.MethodName)) ∈ wAll := w_of7 39 (by decide +kernel) rfl
theorem w1480 : (Jvm.Cond.code ({ cls := "CiteForgeModel", name := "feed", desc := "(I)V" } : Jvm.MethodName) prog_14_method_25_code (2 : Nat) (Option.none : Option Jvm.ClassFile.FieldType)) ∈ wAll := w_of7 40 (by decide +kernel) rfl
theorem w1481 : (Jvm.Cond.methodLink "CiteForgeModel" (124 : Nat) ({ cls := "CiteForgeModel", name := "add", desc := "(II)V" } : Jvm.MethodName)) ∈ wAll := w_of7 41 (by decide +kernel) rfl
theorem w1483 : (Jvm.Cond.instanceMethod ({ cls := "CiteForgeModel", name := "add", desc := "(II)V" } : Jvm.MethodName)) ∈ wAll := w_of7 43 (by decide +kernel) rfl
theorem w1484 : (Jvm.Cond.code ({ cls := "CiteForgeModel", name := "add", desc := "(II)V" } : Jvm.MethodName) prog_14_method_8_code (3 : Nat) (Option.none : Option Jvm.ClassFile.FieldType)) ∈ wAll := w_of7 44 (by decide +kernel) rfl
theorem w1485 : (Jvm.Cond.methodLink "CiteForgeModel" (171 : Nat) ({ cls := "CiteForgeModel", name := "braced", desc := "()V" } : Jvm.MethodName)) ∈ wAll := w_of7 45 (by decide +kernel) rfl
theorem w1487 : (Jvm.Cond.instanceMethod ({ cls := "CiteForgeModel", name := "braced", desc := "()V" } : Jvm.MethodName)) ∈ wAll := w_of7 47 (by decide +kernel) rfl
theorem w1488 : (Jvm.Cond.code ({ cls := "CiteForgeModel", name := "braced", desc := "()V" } : Jvm.MethodName) prog_14_method_27_code (3 : Nat) (Option.none : Option Jvm.ClassFile.FieldType)) ∈ wAll := w_of7 48 (by decide +kernel) rfl
theorem w1489 : (Jvm.Cond.methodLink "CiteForgeModel" (174 : Nat) ({ cls := "CiteForgeModel", name := "quoted", desc := "()V" } : Jvm.MethodName)) ∈ wAll := w_of7 49 (by decide +kernel) rfl
theorem w1491 : (Jvm.Cond.instanceMethod ({ cls := "CiteForgeModel", name := "quoted", desc := "()V" } : Jvm.MethodName)) ∈ wAll := w_of7 51 (by decide +kernel) rfl
theorem w1492 : (Jvm.Cond.code ({ cls := "CiteForgeModel", name := "quoted", desc := "()V" } : Jvm.MethodName) prog_14_method_28_code (3 : Nat) (Option.none : Option Jvm.ClassFile.FieldType)) ∈ wAll := w_of7 52 (by decide +kernel) rfl
theorem w1493 : (Jvm.Cond.methodLink "CiteForgeModel" (181 : Nat) ({ cls := "CiteForgeModel", name := "findString", desc := "(J)I" } : Jvm.MethodName)) ∈ wAll := w_of7 53 (by decide +kernel) rfl
theorem w1495 : (Jvm.Cond.instanceMethod ({ cls := "CiteForgeModel", name := "findString", desc := "(J)I" } : Jvm.MethodName)) ∈ wAll := w_of7 55 (by decide +kernel) rfl
theorem w1496 : (Jvm.Cond.code ({ cls := "CiteForgeModel", name := "findString", desc := "(J)I" } : Jvm.MethodName) prog_14_method_26_code (5 : Nat) (Option.some Jvm.ClassFile.FieldType.int)) ∈ wAll := w_of7 56 (by decide +kernel) rfl
theorem w1497 : (Jvm.Cond.methodLink "CiteForgeModel" (99 : Nat) ({ cls := "CiteForgeModel", name := "at", desc := "(II)I" } : Jvm.MethodName)) ∈ wAll := w_of7 57 (by decide +kernel) rfl
theorem w1499 : (Jvm.Cond.instanceMethod ({ cls := "CiteForgeModel", name := "at", desc := "(II)I" } : Jvm.MethodName)) ∈ wAll := w_of7 59 (by decide +kernel) rfl
theorem w1500 : (Jvm.Cond.code ({ cls := "CiteForgeModel", name := "at", desc := "(II)I" } : Jvm.MethodName) prog_14_method_6_code (3 : Nat) (Option.some Jvm.ClassFile.FieldType.int)) ∈ wAll := w_of7 60 (by decide +kernel) rfl
theorem w1501 : (Jvm.Cond.methodLink "CiteForgeModel" (194 : Nat) ({ cls := "CiteForgeModel", name := "copy", desc := "(II)V" } : Jvm.MethodName)) ∈ wAll := w_of7 61 (by decide +kernel) rfl
theorem w1503 : (Jvm.Cond.instanceMethod ({ cls := "CiteForgeModel", name := "copy", desc := "(II)V" } : Jvm.MethodName)) ∈ wAll := w_of7 63 (by decide +kernel) rfl
theorem w1504 : (Jvm.Cond.code ({ cls := "CiteForgeModel", name := "copy", desc := "(II)V" } : Jvm.MethodName) prog_14_method_9_code (4 : Nat) (Option.none : Option Jvm.ClassFile.FieldType)) ∈ wAll := w_of7 64 (by decide +kernel) rfl
theorem w1505 : (Jvm.Cond.constantLong "CiteForgeModel" (218 : Nat) (32772479205076835 : Int64)) ∈ wAll := w_of7 65 (by decide +kernel) rfl
theorem w1506 : (Jvm.Cond.methodLink "CiteForgeModel" (220 : Nat) ({ cls := "CiteForgeModel", name := "entry", desc := "(J)V" } : Jvm.MethodName)) ∈ wAll := w_of7 66 (by decide +kernel) rfl
theorem w1508 : (Jvm.Cond.instanceMethod ({ cls := "CiteForgeModel", name := "entry", desc := "(J)V" } : Jvm.MethodName)) ∈ wAll := w_of7 68 (by decide +kernel) rfl
theorem w1509 : (Jvm.Cond.code ({ cls := "CiteForgeModel", name := "entry", desc := "(J)V" } : Jvm.MethodName) prog_14_method_35_code (7 : Nat) (Option.none : Option Jvm.ClassFile.FieldType)) ∈ wAll := w_of7 69 (by decide +kernel) rfl
theorem w1510 : (Jvm.Cond.methodLink "CiteForgeModel" (204 : Nat) ({ cls := "CiteForgeModel", name := "readField", desc := "()V" } : Jvm.MethodName)) ∈ wAll := w_of7 70 (by decide +kernel) rfl
theorem w1512 : (Jvm.Cond.instanceMethod ({ cls := "CiteForgeModel", name := "readField", desc := "()V" } : Jvm.MethodName)) ∈ wAll := w_of7 72 (by decide +kernel) rfl
theorem w1513 : (Jvm.Cond.code ({ cls := "CiteForgeModel", name := "readField", desc := "()V" } : Jvm.MethodName) prog_14_method_33_code (3 : Nat) (Option.none : Option Jvm.ClassFile.FieldType)) ∈ wAll := w_of7 73 (by decide +kernel) rfl
theorem w1514 : (Jvm.Cond.methodLink "CiteForgeModel" (197 : Nat) ({ cls := "CiteForgeModel", name := "own", desc := "(IJ)I" } : Jvm.MethodName)) ∈ wAll := w_of7 74 (by decide +kernel) rfl
theorem w1516 : (Jvm.Cond.instanceMethod ({ cls := "CiteForgeModel", name := "own", desc := "(IJ)I" } : Jvm.MethodName)) ∈ wAll := w_of7 76 (by decide +kernel) rfl
theorem w1517 : (Jvm.Cond.code ({ cls := "CiteForgeModel", name := "own", desc := "(IJ)I" } : Jvm.MethodName) prog_14_method_32_code (6 : Nat) (Option.some Jvm.ClassFile.FieldType.int)) ∈ wAll := w_of7 77 (by decide +kernel) rfl
theorem w1518 : (Jvm.Cond.methodLink "CiteForgeModel" (207 : Nat) ({ cls := "CiteForgeModel", name := "findKey", desc := "(J)I" } : Jvm.MethodName)) ∈ wAll := w_of7 78 (by decide +kernel) rfl
theorem w1520 : (Jvm.Cond.instanceMethod ({ cls := "CiteForgeModel", name := "findKey", desc := "(J)I" } : Jvm.MethodName)) ∈ wAll := w_of7 80 (by decide +kernel) rfl
theorem w1521 : (Jvm.Cond.code ({ cls := "CiteForgeModel", name := "findKey", desc := "(J)I" } : Jvm.MethodName) prog_14_method_34_code (5 : Nat) (Option.some Jvm.ClassFile.FieldType.int)) ∈ wAll := w_of7 81 (by decide +kernel) rfl
theorem w1522 : (Jvm.Cond.methodLink "CiteForgeLaw" (95 : Nat) ({ cls := "CiteForgeModel", name := "cite", desc := "(J)Z" } : Jvm.MethodName)) ∈ wAll := w_of7 82 (by decide +kernel) rfl
theorem w1523 : (Jvm.Cond.instanceMethod ({ cls := "CiteForgeModel", name := "cite", desc := "(J)Z" } : Jvm.MethodName)) ∈ wAll := w_of7 83 (by decide +kernel) rfl
theorem w1524 : (Jvm.Cond.selects "CiteForgeModel" ({ cls := "CiteForgeModel", name := "cite", desc := "(J)Z" } : Jvm.MethodName) ({ cls := "CiteForgeModel", name := "cite", desc := "(J)Z" } : Jvm.MethodName)) ∈ wAll := w_of7 84 (by decide +kernel) rfl
theorem w1525 : (Jvm.Cond.code ({ cls := "CiteForgeModel", name := "cite", desc := "(J)Z" } : Jvm.MethodName) prog_14_method_37_code (9 : Nat) (Option.some Jvm.ClassFile.FieldType.boolean)) ∈ wAll := w_of7 85 (by decide +kernel) rfl
theorem w1526 : (Jvm.Cond.methodLink "CiteForgeModel" (224 : Nat) ({ cls := "CiteForgeModel", name := "wordOf", desc := "(J)J" } : Jvm.MethodName)) ∈ wAll := w_of7 86 (by decide +kernel) rfl
theorem w1527 : (Jvm.Cond.static ({ cls := "CiteForgeModel", name := "wordOf", desc := "(J)J" } : Jvm.MethodName)) ∈ wAll := w_of7 87 (by decide +kernel) rfl
theorem w1528 : (Jvm.Cond.code ({ cls := "CiteForgeModel", name := "wordOf", desc := "(J)J" } : Jvm.MethodName) prog_14_method_15_code (7 : Nat) (Option.some Jvm.ClassFile.FieldType.long)) ∈ wAll := w_of7 88 (by decide +kernel) rfl
theorem w1529 : (Jvm.Cond.methodLink "CiteForgeLaw" (99 : Nat) ({ cls := "CiteForgeModel", name := "forget", desc := "()I" } : Jvm.MethodName)) ∈ wAll := w_of7 89 (by decide +kernel) rfl
theorem w1530 : (Jvm.Cond.instanceMethod ({ cls := "CiteForgeModel", name := "forget", desc := "()I" } : Jvm.MethodName)) ∈ wAll := w_of7 90 (by decide +kernel) rfl
theorem w1531 : (Jvm.Cond.selects "CiteForgeModel" ({ cls := "CiteForgeModel", name := "forget", desc := "()I" } : Jvm.MethodName) ({ cls := "CiteForgeModel", name := "forget", desc := "()I" } : Jvm.MethodName)) ∈ wAll := w_of7 91 (by decide +kernel) rfl
theorem w1532 : (Jvm.Cond.code ({ cls := "CiteForgeModel", name := "forget", desc := "()I" } : Jvm.MethodName) prog_14_method_38_code (2 : Nat) (Option.some Jvm.ClassFile.FieldType.int)) ∈ wAll := w_of7 92 (by decide +kernel) rfl
theorem w1533 : (Jvm.Cond.methodLink "CiteForgeLaw" (103 : Nat) ({ cls := "CiteForgeModel", name := "list", desc := "(I)I" } : Jvm.MethodName)) ∈ wAll := w_of7 93 (by decide +kernel) rfl
theorem w1534 : (Jvm.Cond.instanceMethod ({ cls := "CiteForgeModel", name := "list", desc := "(I)I" } : Jvm.MethodName)) ∈ wAll := w_of7 94 (by decide +kernel) rfl
theorem w1535 : (Jvm.Cond.selects "CiteForgeModel" ({ cls := "CiteForgeModel", name := "list", desc := "(I)I" } : Jvm.MethodName) ({ cls := "CiteForgeModel", name := "list", desc := "(I)I" } : Jvm.MethodName)) ∈ wAll := w_of7 95 (by decide +kernel) rfl
theorem w1536 : (Jvm.Cond.code ({ cls := "CiteForgeModel", name := "list", desc := "(I)I" } : Jvm.MethodName) prog_14_method_41_code (6 : Nat) (Option.some Jvm.ClassFile.FieldType.int)) ∈ wAll := w_of7 96 (by decide +kernel) rfl
theorem w1537 : (Jvm.Cond.methodLink "CiteForgeModel" (237 : Nat) ({ cls := "CiteForgeModel", name := "refers", desc := "(I)J" } : Jvm.MethodName)) ∈ wAll := w_of7 97 (by decide +kernel) rfl
theorem w1539 : (Jvm.Cond.instanceMethod ({ cls := "CiteForgeModel", name := "refers", desc := "(I)J" } : Jvm.MethodName)) ∈ wAll := w_of7 99 (by decide +kernel) rfl
theorem w1540 : (Jvm.Cond.code ({ cls := "CiteForgeModel", name := "refers", desc := "(I)J" } : Jvm.MethodName) prog_14_method_40_code (3 : Nat) (Option.some Jvm.ClassFile.FieldType.long)) ∈ wAll := w_of7 100 (by decide +kernel) rfl
theorem w1541 : (Jvm.Cond.constantLong "CiteForgeModel" (231 : Nat) (7378429404699914851 : Int64)) ∈ wAll := w_of7 101 (by decide +kernel) rfl
theorem w1542 : (Jvm.Cond.methodLink "CiteForgeModel" (233 : Nat) ({ cls := "CiteForgeModel", name := "packed", desc := "(I)J" } : Jvm.MethodName)) ∈ wAll := w_of7 102 (by decide +kernel) rfl
theorem w1544 : (Jvm.Cond.instanceMethod ({ cls := "CiteForgeModel", name := "packed", desc := "(I)J" } : Jvm.MethodName)) ∈ wAll := w_of7 104 (by decide +kernel) rfl
theorem w1545 : (Jvm.Cond.code ({ cls := "CiteForgeModel", name := "packed", desc := "(I)J" } : Jvm.MethodName) prog_14_method_16_code (5 : Nat) (Option.some Jvm.ClassFile.FieldType.long)) ∈ wAll := w_of7 105 (by decide +kernel) rfl
theorem w1546 : (Jvm.Cond.methodLink "CiteForgeModel" (240 : Nat) ({ cls := "CiteForgeModel", name := "isListed", desc := "(I)Z" } : Jvm.MethodName)) ∈ wAll := w_of7 106 (by decide +kernel) rfl
theorem w1548 : (Jvm.Cond.instanceMethod ({ cls := "CiteForgeModel", name := "isListed", desc := "(I)Z" } : Jvm.MethodName)) ∈ wAll := w_of7 108 (by decide +kernel) rfl
theorem w1549 : (Jvm.Cond.code ({ cls := "CiteForgeModel", name := "isListed", desc := "(I)Z" } : Jvm.MethodName) prog_14_method_39_code (4 : Nat) (Option.some Jvm.ClassFile.FieldType.boolean)) ∈ wAll := w_of7 109 (by decide +kernel) rfl
theorem w1550 : (Jvm.Cond.methodLink "CiteForgeLaw" (106 : Nat) ({ cls := "CiteForgeModel", name := "key", desc := "(I)J" } : Jvm.MethodName)) ∈ wAll := w_of7 110 (by decide +kernel) rfl
theorem w1551 : (Jvm.Cond.instanceMethod ({ cls := "CiteForgeModel", name := "key", desc := "(I)J" } : Jvm.MethodName)) ∈ wAll := w_of7 111 (by decide +kernel) rfl
theorem w1552 : (Jvm.Cond.selects "CiteForgeModel" ({ cls := "CiteForgeModel", name := "key", desc := "(I)J" } : Jvm.MethodName) ({ cls := "CiteForgeModel", name := "key", desc := "(I)J" } : Jvm.MethodName)) ∈ wAll := w_of7 112 (by decide +kernel) rfl
theorem w1553 : (Jvm.Cond.code ({ cls := "CiteForgeModel", name := "key", desc := "(I)J" } : Jvm.MethodName) prog_14_method_42_code (2 : Nat) (Option.some Jvm.ClassFile.FieldType.long)) ∈ wAll := w_of7 113 (by decide +kernel) rfl
theorem w1554 : (Jvm.Cond.methodLink "CiteForgeLaw" (111 : Nat) ({ cls := "CiteForgeModel", name := "sort", desc := "()Z" } : Jvm.MethodName)) ∈ wAll := w_of7 114 (by decide +kernel) rfl
theorem w1555 : (Jvm.Cond.instanceMethod ({ cls := "CiteForgeModel", name := "sort", desc := "()Z" } : Jvm.MethodName)) ∈ wAll := w_of7 115 (by decide +kernel) rfl
theorem w1556 : (Jvm.Cond.selects "CiteForgeModel" ({ cls := "CiteForgeModel", name := "sort", desc := "()Z" } : Jvm.MethodName) ({ cls := "CiteForgeModel", name := "sort", desc := "()Z" } : Jvm.MethodName)) ∈ wAll := w_of7 116 (by decide +kernel) rfl
theorem w1557 : (Jvm.Cond.code ({ cls := "CiteForgeModel", name := "sort", desc := "()Z" } : Jvm.MethodName) prog_14_method_44_code (5 : Nat) (Option.some Jvm.ClassFile.FieldType.boolean)) ∈ wAll := w_of7 117 (by decide +kernel) rfl
theorem w1558 : (Jvm.Cond.methodLink "CiteForgeModel" (243 : Nat) ({ cls := "CiteForgeModel", name := "before", desc := "(II)Z" } : Jvm.MethodName)) ∈ wAll := w_of7 118 (by decide +kernel) rfl
theorem w1560 : (Jvm.Cond.instanceMethod ({ cls := "CiteForgeModel", name := "before", desc := "(II)Z" } : Jvm.MethodName)) ∈ wAll := w_of7 120 (by decide +kernel) rfl
theorem w1561 : (Jvm.Cond.code ({ cls := "CiteForgeModel", name := "before", desc := "(II)Z" } : Jvm.MethodName) prog_14_method_43_code (4 : Nat) (Option.some Jvm.ClassFile.FieldType.boolean)) ∈ wAll := w_of7 121 (by decide +kernel) rfl
theorem w1562 : (Jvm.Cond.methodLink "CiteForgeLaw" (115 : Nat) ({ cls := "CiteForgeModel", name := "field", desc := "(IJI)I" } : Jvm.MethodName)) ∈ wAll := w_of7 122 (by decide +kernel) rfl
theorem w1563 : (Jvm.Cond.instanceMethod ({ cls := "CiteForgeModel", name := "field", desc := "(IJI)I" } : Jvm.MethodName)) ∈ wAll := w_of7 123 (by decide +kernel) rfl
theorem w1564 : (Jvm.Cond.selects "CiteForgeModel" ({ cls := "CiteForgeModel", name := "field", desc := "(IJI)I" } : Jvm.MethodName) ({ cls := "CiteForgeModel", name := "field", desc := "(IJI)I" } : Jvm.MethodName)) ∈ wAll := w_of7 124 (by decide +kernel) rfl
theorem w1565 : (Jvm.Cond.code ({ cls := "CiteForgeModel", name := "field", desc := "(IJI)I" } : Jvm.MethodName) prog_14_method_46_code (6 : Nat) (Option.some Jvm.ClassFile.FieldType.int)) ∈ wAll := w_of7 125 (by decide +kernel) rfl
theorem w1566 : (Jvm.Cond.methodLink "CiteForgeModel" (247 : Nat) ({ cls := "CiteForgeModel", name := "fieldOf", desc := "(IJ)I" } : Jvm.MethodName)) ∈ wAll := w_of7 126 (by decide +kernel) rfl
theorem w1568 : (Jvm.Cond.instanceMethod ({ cls := "CiteForgeModel", name := "fieldOf", desc := "(IJ)I" } : Jvm.MethodName)) ∈ wAll := w_of7 128 (by decide +kernel) rfl
theorem w1569 : (Jvm.Cond.code ({ cls := "CiteForgeModel", name := "fieldOf", desc := "(IJ)I" } : Jvm.MethodName) prog_14_method_45_code (6 : Nat) (Option.some Jvm.ClassFile.FieldType.int)) ∈ wAll := w_of7 129 (by decide +kernel) rfl
theorem w1570 : (Jvm.Cond.methodLink "CiteForgeLaw" (119 : Nat) ({ cls := "CiteForgeModel", name := "define", desc := "(IIJ)I" } : Jvm.MethodName)) ∈ wAll := w_of7 130 (by decide +kernel) rfl
theorem w1571 : (Jvm.Cond.instanceMethod ({ cls := "CiteForgeModel", name := "define", desc := "(IIJ)I" } : Jvm.MethodName)) ∈ wAll := w_of7 131 (by decide +kernel) rfl
theorem w1572 : (Jvm.Cond.selects "CiteForgeModel" ({ cls := "CiteForgeModel", name := "define", desc := "(IIJ)I" } : Jvm.MethodName) ({ cls := "CiteForgeModel", name := "define", desc := "(IIJ)I" } : Jvm.MethodName)) ∈ wAll := w_of7 132 (by decide +kernel) rfl
theorem w1573 : (Jvm.Cond.code ({ cls := "CiteForgeModel", name := "define", desc := "(IIJ)I" } : Jvm.MethodName) prog_14_method_47_code (5 : Nat) (Option.some Jvm.ClassFile.FieldType.int)) ∈ wAll := w_of7 133 (by decide +kernel) rfl
theorem w1574 : (Jvm.Cond.methodLink "CiteForgeLaw" (122 : Nat) ({ cls := "CiteForgeModel", name := "clear", desc := "(I)I" } : Jvm.MethodName)) ∈ wAll := w_of7 134 (by decide +kernel) rfl
theorem w1575 : (Jvm.Cond.instanceMethod ({ cls := "CiteForgeModel", name := "clear", desc := "(I)I" } : Jvm.MethodName)) ∈ wAll := w_of7 135 (by decide +kernel) rfl
theorem w1576 : (Jvm.Cond.selects "CiteForgeModel" ({ cls := "CiteForgeModel", name := "clear", desc := "(I)I" } : Jvm.MethodName) ({ cls := "CiteForgeModel", name := "clear", desc := "(I)I" } : Jvm.MethodName)) ∈ wAll := w_of7 136 (by decide +kernel) rfl
theorem w1577 : (Jvm.Cond.code ({ cls := "CiteForgeModel", name := "clear", desc := "(I)I" } : Jvm.MethodName) prog_14_method_48_code (3 : Nat) (Option.some Jvm.ClassFile.FieldType.int)) ∈ wAll := w_of7 137 (by decide +kernel) rfl
theorem w1578 : (Jvm.Cond.methodLink "CiteForgeLaw" (126 : Nat) ({ cls := "CiteForgeModel", name := "run", desc := "(II)I" } : Jvm.MethodName)) ∈ wAll := w_of7 138 (by decide +kernel) rfl
theorem w1579 : (Jvm.Cond.instanceMethod ({ cls := "CiteForgeModel", name := "run", desc := "(II)I" } : Jvm.MethodName)) ∈ wAll := w_of7 139 (by decide +kernel) rfl
theorem w1580 : (Jvm.Cond.selects "CiteForgeModel" ({ cls := "CiteForgeModel", name := "run", desc := "(II)I" } : Jvm.MethodName) ({ cls := "CiteForgeModel", name := "run", desc := "(II)I" } : Jvm.MethodName)) ∈ wAll := w_of7 140 (by decide +kernel) rfl
theorem w1581 : (Jvm.Cond.code ({ cls := "CiteForgeModel", name := "run", desc := "(II)I" } : Jvm.MethodName) prog_14_method_87_code (4 : Nat) (Option.some Jvm.ClassFile.FieldType.int)) ∈ wAll := w_of7 141 (by decide +kernel) rfl
theorem w1582 : (Jvm.Cond.methodLink "CiteForgeModel" (414 : Nat) ({ cls := "CiteForgeModel", name := "once", desc := "(I)V" } : Jvm.MethodName)) ∈ wAll := w_of7 142 (by decide +kernel) rfl
theorem w1584 : (Jvm.Cond.instanceMethod ({ cls := "CiteForgeModel", name := "once", desc := "(I)V" } : Jvm.MethodName)) ∈ wAll := w_of7 144 (by decide +kernel) rfl
theorem w1585 : (Jvm.Cond.code ({ cls := "CiteForgeModel", name := "once", desc := "(I)V" } : Jvm.MethodName) prog_14_method_86_code (2 : Nat) (Option.none : Option Jvm.ClassFile.FieldType)) ∈ wAll := w_of7 145 (by decide +kernel) rfl
theorem w1586 : (Jvm.Cond.methodLink "CiteForgeModel" (394 : Nat) ({ cls := "CiteForgeModel", name := "push", desc := "(IIJ)V" } : Jvm.MethodName)) ∈ wAll := w_of7 146 (by decide +kernel) rfl
theorem w1588 : (Jvm.Cond.instanceMethod ({ cls := "CiteForgeModel", name := "push", desc := "(IIJ)V" } : Jvm.MethodName)) ∈ wAll := w_of7 148 (by decide +kernel) rfl
theorem w1589 : (Jvm.Cond.code ({ cls := "CiteForgeModel", name := "push", desc := "(IIJ)V" } : Jvm.MethodName) prog_14_method_83_code (5 : Nat) (Option.none : Option Jvm.ClassFile.FieldType)) ∈ wAll := w_of7 149 (by decide +kernel) rfl
theorem w1590 : (Jvm.Cond.methodLink "CiteForgeModel" (408 : Nat) ({ cls := "CiteForgeModel", name := "operate", desc := "()V" } : Jvm.MethodName)) ∈ wAll := w_of7 150 (by decide +kernel) rfl
theorem w1592 : (Jvm.Cond.instanceMethod ({ cls := "CiteForgeModel", name := "operate", desc := "()V" } : Jvm.MethodName)) ∈ wAll := w_of7 152 (by decide +kernel) rfl
theorem w1593 : (Jvm.Cond.code ({ cls := "CiteForgeModel", name := "operate", desc := "()V" } : Jvm.MethodName) prog_14_method_84_code (8 : Nat) (Option.none : Option Jvm.ClassFile.FieldType)) ∈ wAll := w_of7 153 (by decide +kernel) rfl
theorem w1594 : (Jvm.Cond.methodLink "CiteForgeModel" (292 : Nat) ({ cls := "CiteForgeModel", name := "number", desc := "()I" } : Jvm.MethodName)) ∈ wAll := w_of7 154 (by decide +kernel) rfl
theorem w1596 : (Jvm.Cond.instanceMethod ({ cls := "CiteForgeModel", name := "number", desc := "()I" } : Jvm.MethodName)) ∈ wAll := w_of7 156 (by decide +kernel) rfl
theorem w1597 : (Jvm.Cond.code ({ cls := "CiteForgeModel", name := "number", desc := "()I" } : Jvm.MethodName) prog_14_method_53_code (1 : Nat) (Option.some Jvm.ClassFile.FieldType.int)) ∈ wAll := w_of7 157 (by decide +kernel) rfl
theorem w1598 : (Jvm.Cond.constantLong "CiteForgeModel" (392 : Nat) (6 : Int64)) ∈ wAll := w_of7 158 (by decide +kernel) rfl
theorem w1599 : (Jvm.Cond.methodLink "CiteForgeModel" (398 : Nat) ({ cls := "CiteForgeModel", name := "simple", desc := "(IJ)V" } : Jvm.MethodName)) ∈ wAll := w_of7 159 (by decide +kernel) rfl
theorem w1601 : (Jvm.Cond.instanceMethod ({ cls := "CiteForgeModel", name := "simple", desc := "(IJ)V" } : Jvm.MethodName)) ∈ wAll := w_of7 161 (by decide +kernel) rfl
theorem w1602 : (Jvm.Cond.code ({ cls := "CiteForgeModel", name := "simple", desc := "(IJ)V" } : Jvm.MethodName) prog_14_method_64_code (6 : Nat) (Option.none : Option Jvm.ClassFile.FieldType)) ∈ wAll := w_of7 162 (by decide +kernel) rfl
theorem w1603 : (Jvm.Cond.methodLink "CiteForgeModel" (260 : Nat) ({ cls := "CiteForgeModel", name := "giveNumber", desc := "(I)V" } : Jvm.MethodName)) ∈ wAll := w_of7 163 (by decide +kernel) rfl
theorem w1605 : (Jvm.Cond.instanceMethod ({ cls := "CiteForgeModel", name := "giveNumber", desc := "(I)V" } : Jvm.MethodName)) ∈ wAll := w_of7 165 (by decide +kernel) rfl
theorem w1606 : (Jvm.Cond.code ({ cls := "CiteForgeModel", name := "giveNumber", desc := "(I)V" } : Jvm.MethodName) prog_14_method_50_code (2 : Nat) (Option.none : Option Jvm.ClassFile.FieldType)) ∈ wAll := w_of7 166 (by decide +kernel) rfl
theorem w1607 : (Jvm.Cond.methodLink "CiteForgeModel" (253 : Nat) ({ cls := "CiteForgeModel", name := "room", desc := "()Z" } : Jvm.MethodName)) ∈ wAll := w_of7 167 (by decide +kernel) rfl
theorem w1609 : (Jvm.Cond.instanceMethod ({ cls := "CiteForgeModel", name := "room", desc := "()Z" } : Jvm.MethodName)) ∈ wAll := w_of7 169 (by decide +kernel) rfl
theorem w1610 : (Jvm.Cond.code ({ cls := "CiteForgeModel", name := "room", desc := "()Z" } : Jvm.MethodName) prog_14_method_49_code (1 : Nat) (Option.some Jvm.ClassFile.FieldType.boolean)) ∈ wAll := w_of7 170 (by decide +kernel) rfl
theorem w1611 : (Jvm.Cond.methodLink "CiteForgeModel" (282 : Nat) ({ cls := "CiteForgeModel", name := "unpack", desc := "(JI)V" } : Jvm.MethodName)) ∈ wAll := w_of7 171 (by decide +kernel) rfl
theorem w1613 : (Jvm.Cond.instanceMethod ({ cls := "CiteForgeModel", name := "unpack", desc := "(JI)V" } : Jvm.MethodName)) ∈ wAll := w_of7 173 (by decide +kernel) rfl
theorem w1614 : (Jvm.Cond.code ({ cls := "CiteForgeModel", name := "unpack", desc := "(JI)V" } : Jvm.MethodName) prog_14_method_17_code (7 : Nat) (Option.none : Option Jvm.ClassFile.FieldType)) ∈ wAll := w_of7 174 (by decide +kernel) rfl
theorem w1615 : (Jvm.Cond.methodLink "CiteForgeModel" (263 : Nat) ({ cls := "CiteForgeModel", name := "giveText", desc := "(I)V" } : Jvm.MethodName)) ∈ wAll := w_of7 175 (by decide +kernel) rfl
theorem w1617 : (Jvm.Cond.instanceMethod ({ cls := "CiteForgeModel", name := "giveText", desc := "(I)V" } : Jvm.MethodName)) ∈ wAll := w_of7 177 (by decide +kernel) rfl
theorem w1618 : (Jvm.Cond.code ({ cls := "CiteForgeModel", name := "giveText", desc := "(I)V" } : Jvm.MethodName) prog_14_method_51_code (2 : Nat) (Option.none : Option Jvm.ClassFile.FieldType)) ∈ wAll := w_of7 178 (by decide +kernel) rfl
theorem w1619 : (Jvm.Cond.methodLink "CiteForgeModel" (289 : Nat) ({ cls := "CiteForgeModel", name := "fields", desc := "(J)V" } : Jvm.MethodName)) ∈ wAll := w_of7 179 (by decide +kernel) rfl
theorem w1621 : (Jvm.Cond.instanceMethod ({ cls := "CiteForgeModel", name := "fields", desc := "(J)V" } : Jvm.MethodName)) ∈ wAll := w_of7 181 (by decide +kernel) rfl
theorem w1622 : (Jvm.Cond.code ({ cls := "CiteForgeModel", name := "fields", desc := "(J)V" } : Jvm.MethodName) prog_14_method_61_code (4 : Nat) (Option.none : Option Jvm.ClassFile.FieldType)) ∈ wAll := w_of7 182 (by decide +kernel) rfl
theorem w1623 : (Jvm.Cond.methodLink "CiteForgeModel" (266 : Nat) ({ cls := "CiteForgeModel", name := "giveMissing", desc := "()V" } : Jvm.MethodName)) ∈ wAll := w_of7 183 (by decide +kernel) rfl
theorem w1625 : (Jvm.Cond.instanceMethod ({ cls := "CiteForgeModel", name := "giveMissing", desc := "()V" } : Jvm.MethodName)) ∈ wAll := w_of7 185 (by decide +kernel) rfl
theorem w1626 : (Jvm.Cond.code ({ cls := "CiteForgeModel", name := "giveMissing", desc := "()V" } : Jvm.MethodName) prog_14_method_52_code (1 : Nat) (Option.none : Option Jvm.ClassFile.FieldType)) ∈ wAll := w_of7 186 (by decide +kernel) rfl
theorem w1627 : (Jvm.Cond.methodLink "CiteForgeModel" (295 : Nat) ({ cls := "CiteForgeModel", name := "compares", desc := "()V" } : Jvm.MethodName)) ∈ wAll := w_of7 187 (by decide +kernel) rfl
theorem w1629 : (Jvm.Cond.instanceMethod ({ cls := "CiteForgeModel", name := "compares", desc := "()V" } : Jvm.MethodName)) ∈ wAll := w_of7 189 (by decide +kernel) rfl
theorem w1630 : (Jvm.Cond.code ({ cls := "CiteForgeModel", name := "compares", desc := "()V" } : Jvm.MethodName) prog_14_method_58_code (6 : Nat) (Option.none : Option Jvm.ClassFile.FieldType)) ∈ wAll := w_of7 190 (by decide +kernel) rfl
theorem w1631 : (Jvm.Cond.methodLink "CiteForgeModel" (269 : Nat) ({ cls := "CiteForgeModel", name := "any", desc := "(I)I" } : Jvm.MethodName)) ∈ wAll := w_of7 191 (by decide +kernel) rfl
theorem w1633 : (Jvm.Cond.instanceMethod ({ cls := "CiteForgeModel", name := "any", desc := "(I)I" } : Jvm.MethodName)) ∈ wAll := w_of7 193 (by decide +kernel) rfl
theorem w1634 : (Jvm.Cond.code ({ cls := "CiteForgeModel", name := "any", desc := "(I)I" } : Jvm.MethodName) prog_14_method_55_code (2 : Nat) (Option.some Jvm.ClassFile.FieldType.int)) ∈ wAll := w_of7 194 (by decide +kernel) rfl
theorem w1635 : (Jvm.Cond.methodLink "CiteForgeModel" (272 : Nat) ({ cls := "CiteForgeModel", name := "same", desc := "(II)Z" } : Jvm.MethodName)) ∈ wAll := w_of7 195 (by decide +kernel) rfl
theorem w1637 : (Jvm.Cond.instanceMethod ({ cls := "CiteForgeModel", name := "same", desc := "(II)Z" } : Jvm.MethodName)) ∈ wAll := w_of7 197 (by decide +kernel) rfl
theorem w1638 : (Jvm.Cond.code ({ cls := "CiteForgeModel", name := "same", desc := "(II)Z" } : Jvm.MethodName) prog_14_method_57_code (5 : Nat) (Option.some Jvm.ClassFile.FieldType.boolean)) ∈ wAll := w_of7 198 (by decide +kernel) rfl
theorem w1639 : (Jvm.Cond.methodLink "CiteForgeModel" (298 : Nat) ({ cls := "CiteForgeModel", name := "joined", desc := "()V" } : Jvm.MethodName)) ∈ wAll := w_of7 199 (by decide +kernel) rfl
theorem w1641 : (Jvm.Cond.instanceMethod ({ cls := "CiteForgeModel", name := "joined", desc := "()V" } : Jvm.MethodName)) ∈ wAll := w_of7 201 (by decide +kernel) rfl
theorem w1642 : (Jvm.Cond.code ({ cls := "CiteForgeModel", name := "joined", desc := "()V" } : Jvm.MethodName) prog_14_method_62_code (2 : Nat) (Option.none : Option Jvm.ClassFile.FieldType)) ∈ wAll := w_of7 202 (by decide +kernel) rfl
theorem w1643 : (Jvm.Cond.methodLink "CiteForgeModel" (286 : Nat) ({ cls := "CiteForgeModel", name := "taken", desc := "(I)V" } : Jvm.MethodName)) ∈ wAll := w_of7 203 (by decide +kernel) rfl
theorem w1645 : (Jvm.Cond.instanceMethod ({ cls := "CiteForgeModel", name := "taken", desc := "(I)V" } : Jvm.MethodName)) ∈ wAll := w_of7 205 (by decide +kernel) rfl
theorem w1646 : (Jvm.Cond.code ({ cls := "CiteForgeModel", name := "taken", desc := "(I)V" } : Jvm.MethodName) prog_14_method_54_code (2 : Nat) (Option.none : Option Jvm.ClassFile.FieldType)) ∈ wAll := w_of7 206 (by decide +kernel) rfl
theorem w1647 : (Jvm.Cond.methodLink "CiteForgeModel" (301 : Nat) ({ cls := "CiteForgeModel", name := "exchanges", desc := "(Z)V" } : Jvm.MethodName)) ∈ wAll := w_of7 207 (by decide +kernel) rfl
theorem w1649 : (Jvm.Cond.instanceMethod ({ cls := "CiteForgeModel", name := "exchanges", desc := "(Z)V" } : Jvm.MethodName)) ∈ wAll := w_of7 209 (by decide +kernel) rfl
theorem w1650 : (Jvm.Cond.code ({ cls := "CiteForgeModel", name := "exchanges", desc := "(Z)V" } : Jvm.MethodName) prog_14_method_59_code (6 : Nat) (Option.none : Option Jvm.ClassFile.FieldType)) ∈ wAll := w_of7 210 (by decide +kernel) rfl
theorem w1651 : (Jvm.Cond.methodLink "CiteForgeModel" (275 : Nat) ({ cls := "CiteForgeModel", name := "giveAny", desc := "(III)V" } : Jvm.MethodName)) ∈ wAll := w_of7 211 (by decide +kernel) rfl
theorem w1653 : (Jvm.Cond.instanceMethod ({ cls := "CiteForgeModel", name := "giveAny", desc := "(III)V" } : Jvm.MethodName)) ∈ wAll := w_of7 213 (by decide +kernel) rfl
theorem w1654 : (Jvm.Cond.code ({ cls := "CiteForgeModel", name := "giveAny", desc := "(III)V" } : Jvm.MethodName) prog_14_method_56_code (4 : Nat) (Option.none : Option Jvm.ClassFile.FieldType)) ∈ wAll := w_of7 214 (by decide +kernel) rfl
theorem w1655 : (Jvm.Cond.methodLink "CiteForgeModel" (305 : Nat) ({ cls := "CiteForgeModel", name := "empties", desc := "()V" } : Jvm.MethodName)) ∈ wAll := w_of7 215 (by decide +kernel) rfl
theorem w1657 : (Jvm.Cond.instanceMethod ({ cls := "CiteForgeModel", name := "empties", desc := "()V" } : Jvm.MethodName)) ∈ wAll := w_of7 217 (by decide +kernel) rfl
theorem w1658 : (Jvm.Cond.code ({ cls := "CiteForgeModel", name := "empties", desc := "()V" } : Jvm.MethodName) prog_14_method_63_code (3 : Nat) (Option.none : Option Jvm.ClassFile.FieldType)) ∈ wAll := w_of7 218 (by decide +kernel) rfl
theorem w1659 : (Jvm.Cond.methodLink "CiteForgeModel" (402 : Nat) ({ cls := "CiteForgeModel", name := "more", desc := "(IJ)V" } : Jvm.MethodName)) ∈ wAll := w_of7 219 (by decide +kernel) rfl
theorem w1661 : (Jvm.Cond.instanceMethod ({ cls := "CiteForgeModel", name := "more", desc := "(IJ)V" } : Jvm.MethodName)) ∈ wAll := w_of7 221 (by decide +kernel) rfl
theorem w1662 : (Jvm.Cond.code ({ cls := "CiteForgeModel", name := "more", desc := "(IJ)V" } : Jvm.MethodName) prog_14_method_65_code (5 : Nat) (Option.none : Option Jvm.ClassFile.FieldType)) ∈ wAll := w_of7 222 (by decide +kernel) rfl
theorem w1663 : (Jvm.Cond.constantLong "CiteForgeModel" (308 : Nat) (4 : Int64)) ∈ wAll := w_of7 223 (by decide +kernel) rfl
theorem w1664 : (Jvm.Cond.methodLink "CiteForgeModel" (310 : Nat) ({ cls := "CiteForgeModel", name := "entrys", desc := "(I)V" } : Jvm.MethodName)) ∈ wAll := w_of7 224 (by decide +kernel) rfl
theorem w1666 : (Jvm.Cond.instanceMethod ({ cls := "CiteForgeModel", name := "entrys", desc := "(I)V" } : Jvm.MethodName)) ∈ wAll := w_of7 226 (by decide +kernel) rfl
theorem w1667 : (Jvm.Cond.code ({ cls := "CiteForgeModel", name := "entrys", desc := "(I)V" } : Jvm.MethodName) prog_14_method_60_code (2 : Nat) (Option.none : Option Jvm.ClassFile.FieldType)) ∈ wAll := w_of7 227 (by decide +kernel) rfl
theorem w1668 : (Jvm.Cond.methodLink "CiteForgeModel" (313 : Nat) ({ cls := "CiteForgeModel", name := "putOut", desc := "()V" } : Jvm.MethodName)) ∈ wAll := w_of7 228 (by decide +kernel) rfl
theorem w1670 : (Jvm.Cond.instanceMethod ({ cls := "CiteForgeModel", name := "putOut", desc := "()V" } : Jvm.MethodName)) ∈ wAll := w_of7 230 (by decide +kernel) rfl
theorem w1671 : (Jvm.Cond.code ({ cls := "CiteForgeModel", name := "putOut", desc := "()V" } : Jvm.MethodName) prog_14_method_81_code (6 : Nat) (Option.none : Option Jvm.ClassFile.FieldType)) ∈ wAll := w_of7 231 (by decide +kernel) rfl
theorem w1672 : (Jvm.Cond.methodLink "CiteForgeModel" (380 : Nat) ({ cls := "CiteForgeModel", name := "breaks", desc := "(I)V" } : Jvm.MethodName)) ∈ wAll := w_of7 232 (by decide +kernel) rfl
theorem w1674 : (Jvm.Cond.instanceMethod ({ cls := "CiteForgeModel", name := "breaks", desc := "(I)V" } : Jvm.MethodName)) ∈ wAll := w_of7 234 (by decide +kernel) rfl
theorem w1675 : (Jvm.Cond.code ({ cls := "CiteForgeModel", name := "breaks", desc := "(I)V" } : Jvm.MethodName) prog_14_method_82_code (5 : Nat) (Option.none : Option Jvm.ClassFile.FieldType)) ∈ wAll := w_of7 235 (by decide +kernel) rfl
theorem w1676 : (Jvm.Cond.methodLink "CiteForgeModel" (319 : Nat) ({ cls := "CiteForgeModel", name := "ends", desc := "(I)V" } : Jvm.MethodName)) ∈ wAll := w_of7 236 (by decide +kernel) rfl
theorem w1678 : (Jvm.Cond.instanceMethod ({ cls := "CiteForgeModel", name := "ends", desc := "(I)V" } : Jvm.MethodName)) ∈ wAll := w_of7 238 (by decide +kernel) rfl
theorem w1679 : (Jvm.Cond.code ({ cls := "CiteForgeModel", name := "ends", desc := "(I)V" } : Jvm.MethodName) prog_14_method_80_code (3 : Nat) (Option.none : Option Jvm.ClassFile.FieldType)) ∈ wAll := w_of7 239 (by decide +kernel) rfl
theorem w1680 : (Jvm.Cond.methodLink "CiteForgeModel" (405 : Nat) ({ cls := "CiteForgeModel", name := "texts", desc := "(IJ)V" } : Jvm.MethodName)) ∈ wAll := w_of8 0 (by decide +kernel) rfl
theorem w1682 : (Jvm.Cond.instanceMethod ({ cls := "CiteForgeModel", name := "texts", desc := "(IJ)V" } : Jvm.MethodName)) ∈ wAll := w_of8 2 (by decide +kernel) rfl
theorem w1683 : (Jvm.Cond.code ({ cls := "CiteForgeModel", name := "texts", desc := "(IJ)V" } : Jvm.MethodName) prog_14_method_66_code (6 : Nat) (Option.none : Option Jvm.ClassFile.FieldType)) ∈ wAll := w_of8 3 (by decide +kernel) rfl
theorem w1684 : (Jvm.Cond.methodLink "CiteForgeModel" (322 : Nat) ({ cls := "CiteForgeModel", name := "people", desc := "()I" } : Jvm.MethodName)) ∈ wAll := w_of8 4 (by decide +kernel) rfl
theorem w1686 : (Jvm.Cond.instanceMethod ({ cls := "CiteForgeModel", name := "people", desc := "()I" } : Jvm.MethodName)) ∈ wAll := w_of8 6 (by decide +kernel) rfl
theorem w1687 : (Jvm.Cond.code ({ cls := "CiteForgeModel", name := "people", desc := "()I" } : Jvm.MethodName) prog_14_method_72_code (6 : Nat) (Option.some Jvm.ClassFile.FieldType.int)) ∈ wAll := w_of8 7 (by decide +kernel) rfl
theorem w1688 : (Jvm.Cond.methodLink "CiteForgeModel" (345 : Nat) ({ cls := "CiteForgeModel", name := "isAnd", desc := "(I)Z" } : Jvm.MethodName)) ∈ wAll := w_of8 8 (by decide +kernel) rfl
theorem w1690 : (Jvm.Cond.instanceMethod ({ cls := "CiteForgeModel", name := "isAnd", desc := "(I)Z" } : Jvm.MethodName)) ∈ wAll := w_of8 10 (by decide +kernel) rfl
theorem w1691 : (Jvm.Cond.code ({ cls := "CiteForgeModel", name := "isAnd", desc := "(I)Z" } : Jvm.MethodName) prog_14_method_71_code (4 : Nat) (Option.some Jvm.ClassFile.FieldType.boolean)) ∈ wAll := w_of8 11 (by decide +kernel) rfl
theorem w1692 : (Jvm.Cond.methodLink "CiteForgeModel" (325 : Nat) ({ cls := "CiteForgeModel", name := "person", desc := "(II)V" } : Jvm.MethodName)) ∈ wAll := w_of8 12 (by decide +kernel) rfl
theorem w1694 : (Jvm.Cond.instanceMethod ({ cls := "CiteForgeModel", name := "person", desc := "(II)V" } : Jvm.MethodName)) ∈ wAll := w_of8 14 (by decide +kernel) rfl
theorem w1695 : (Jvm.Cond.code ({ cls := "CiteForgeModel", name := "person", desc := "(II)V" } : Jvm.MethodName) prog_14_method_79_code (3 : Nat) (Option.none : Option Jvm.ClassFile.FieldType)) ∈ wAll := w_of8 15 (by decide +kernel) rfl
theorem w1696 : (Jvm.Cond.methodLink "CiteForgeModel" (363 : Nat) ({ cls := "CiteForgeModel", name := "border", desc := "(IZ)I" } : Jvm.MethodName)) ∈ wAll := w_of8 16 (by decide +kernel) rfl
theorem w1698 : (Jvm.Cond.instanceMethod ({ cls := "CiteForgeModel", name := "border", desc := "(IZ)I" } : Jvm.MethodName)) ∈ wAll := w_of8 18 (by decide +kernel) rfl
theorem w1699 : (Jvm.Cond.code ({ cls := "CiteForgeModel", name := "border", desc := "(IZ)I" } : Jvm.MethodName) prog_14_method_73_code (8 : Nat) (Option.some Jvm.ClassFile.FieldType.int)) ∈ wAll := w_of8 19 (by decide +kernel) rfl
theorem w1700 : (Jvm.Cond.methodLink "CiteForgeModel" (367 : Nat) ({ cls := "CiteForgeModel", name := "cut", desc := "(II)V" } : Jvm.MethodName)) ∈ wAll := w_of8 20 (by decide +kernel) rfl
theorem w1702 : (Jvm.Cond.instanceMethod ({ cls := "CiteForgeModel", name := "cut", desc := "(II)V" } : Jvm.MethodName)) ∈ wAll := w_of8 22 (by decide +kernel) rfl
theorem w1703 : (Jvm.Cond.code ({ cls := "CiteForgeModel", name := "cut", desc := "(II)V" } : Jvm.MethodName) prog_14_method_74_code (8 : Nat) (Option.none : Option Jvm.ClassFile.FieldType)) ∈ wAll := w_of8 23 (by decide +kernel) rfl
theorem w1704 : (Jvm.Cond.methodLink "CiteForgeModel" (370 : Nat) ({ cls := "CiteForgeModel", name := "roles", desc := "()V" } : Jvm.MethodName)) ∈ wAll := w_of8 24 (by decide +kernel) rfl
theorem w1706 : (Jvm.Cond.instanceMethod ({ cls := "CiteForgeModel", name := "roles", desc := "()V" } : Jvm.MethodName)) ∈ wAll := w_of8 26 (by decide +kernel) rfl
theorem w1707 : (Jvm.Cond.code ({ cls := "CiteForgeModel", name := "roles", desc := "()V" } : Jvm.MethodName) prog_14_method_76_code (5 : Nat) (Option.none : Option Jvm.ClassFile.FieldType)) ∈ wAll := w_of8 27 (by decide +kernel) rfl
theorem w1708 : (Jvm.Cond.methodLink "CiteForgeModel" (354 : Nat) ({ cls := "CiteForgeModel", name := "low", desc := "(I)Z" } : Jvm.MethodName)) ∈ wAll := w_of8 28 (by decide +kernel) rfl
theorem w1710 : (Jvm.Cond.instanceMethod ({ cls := "CiteForgeModel", name := "low", desc := "(I)Z" } : Jvm.MethodName)) ∈ wAll := w_of8 30 (by decide +kernel) rfl
theorem w1711 : (Jvm.Cond.code ({ cls := "CiteForgeModel", name := "low", desc := "(I)Z" } : Jvm.MethodName) prog_14_method_75_code (5 : Nat) (Option.some Jvm.ClassFile.FieldType.boolean)) ∈ wAll := w_of8 31 (by decide +kernel) rfl
theorem w1712 : (Jvm.Cond.methodLink "CiteForgeModel" (373 : Nat) ({ cls := "CiteForgeModel", name := "group", desc := "(IZZ)V" } : Jvm.MethodName)) ∈ wAll := w_of8 32 (by decide +kernel) rfl
theorem w1714 : (Jvm.Cond.instanceMethod ({ cls := "CiteForgeModel", name := "group", desc := "(IZZ)V" } : Jvm.MethodName)) ∈ wAll := w_of8 34 (by decide +kernel) rfl
theorem w1715 : (Jvm.Cond.code ({ cls := "CiteForgeModel", name := "group", desc := "(IZZ)V" } : Jvm.MethodName) prog_14_method_78_code (7 : Nat) (Option.none : Option Jvm.ClassFile.FieldType)) ∈ wAll := w_of8 35 (by decide +kernel) rfl
theorem w1716 : (Jvm.Cond.methodLink "CiteForgeModel" (360 : Nat) ({ cls := "CiteForgeModel", name := "initial", desc := "(I)V" } : Jvm.MethodName)) ∈ wAll := w_of8 36 (by decide +kernel) rfl
theorem w1718 : (Jvm.Cond.instanceMethod ({ cls := "CiteForgeModel", name := "initial", desc := "(I)V" } : Jvm.MethodName)) ∈ wAll := w_of8 38 (by decide +kernel) rfl
theorem w1719 : (Jvm.Cond.code ({ cls := "CiteForgeModel", name := "initial", desc := "(I)V" } : Jvm.MethodName) prog_14_method_77_code (4 : Nat) (Option.none : Option Jvm.ClassFile.FieldType)) ∈ wAll := w_of8 39 (by decide +kernel) rfl
theorem w1720 : (Jvm.Cond.constantLong "CiteForgeModel" (328 : Nat) (3 : Int64)) ∈ wAll := w_of8 40 (by decide +kernel) rfl
theorem w1721 : (Jvm.Cond.methodLink "CiteForgeModel" (330 : Nat) ({ cls := "CiteForgeModel", name := "capitals", desc := "(I)V" } : Jvm.MethodName)) ∈ wAll := w_of8 41 (by decide +kernel) rfl
theorem w1723 : (Jvm.Cond.instanceMethod ({ cls := "CiteForgeModel", name := "capitals", desc := "(I)V" } : Jvm.MethodName)) ∈ wAll := w_of8 43 (by decide +kernel) rfl
theorem w1724 : (Jvm.Cond.code ({ cls := "CiteForgeModel", name := "capitals", desc := "(I)V" } : Jvm.MethodName) prog_14_method_67_code (8 : Nat) (Option.none : Option Jvm.ClassFile.FieldType)) ∈ wAll := w_of8 44 (by decide +kernel) rfl
theorem w1725 : (Jvm.Cond.methodLink "CiteForgeModel" (342 : Nat) ({ cls := "CiteForgeModel", name := "large", desc := "(I)I" } : Jvm.MethodName)) ∈ wAll := w_of8 45 (by decide +kernel) rfl
theorem w1726 : (Jvm.Cond.static ({ cls := "CiteForgeModel", name := "large", desc := "(I)I" } : Jvm.MethodName)) ∈ wAll := w_of8 46 (by decide +kernel) rfl
theorem w1727 : (Jvm.Cond.code ({ cls := "CiteForgeModel", name := "large", desc := "(I)I" } : Jvm.MethodName) prog_14_method_13_code (1 : Nat) (Option.some Jvm.ClassFile.FieldType.int)) ∈ wAll := w_of8 47 (by decide +kernel) rfl
theorem w1728 : (Jvm.Cond.methodLink "CiteForgeModel" (333 : Nat) ({ cls := "CiteForgeModel", name := "purified", desc := "()V" } : Jvm.MethodName)) ∈ wAll := w_of8 48 (by decide +kernel) rfl
theorem w1730 : (Jvm.Cond.instanceMethod ({ cls := "CiteForgeModel", name := "purified", desc := "()V" } : Jvm.MethodName)) ∈ wAll := w_of8 50 (by decide +kernel) rfl
theorem w1731 : (Jvm.Cond.code ({ cls := "CiteForgeModel", name := "purified", desc := "()V" } : Jvm.MethodName) prog_14_method_68_code (3 : Nat) (Option.none : Option Jvm.ClassFile.FieldType)) ∈ wAll := w_of8 51 (by decide +kernel) rfl
theorem w1732 : (Jvm.Cond.methodLink "CiteForgeModel" (336 : Nat) ({ cls := "CiteForgeModel", name := "prefix", desc := "(I)V" } : Jvm.MethodName)) ∈ wAll := w_of8 52 (by decide +kernel) rfl
theorem w1734 : (Jvm.Cond.instanceMethod ({ cls := "CiteForgeModel", name := "prefix", desc := "(I)V" } : Jvm.MethodName)) ∈ wAll := w_of8 54 (by decide +kernel) rfl
theorem w1735 : (Jvm.Cond.code ({ cls := "CiteForgeModel", name := "prefix", desc := "(I)V" } : Jvm.MethodName) prog_14_method_69_code (6 : Nat) (Option.none : Option Jvm.ClassFile.FieldType)) ∈ wAll := w_of8 55 (by decide +kernel) rfl
theorem w1736 : (Jvm.Cond.methodLink "CiteForgeModel" (339 : Nat) ({ cls := "CiteForgeModel", name := "substring", desc := "(II)V" } : Jvm.MethodName)) ∈ wAll := w_of8 56 (by decide +kernel) rfl
theorem w1738 : (Jvm.Cond.instanceMethod ({ cls := "CiteForgeModel", name := "substring", desc := "(II)V" } : Jvm.MethodName)) ∈ wAll := w_of8 58 (by decide +kernel) rfl
theorem w1739 : (Jvm.Cond.code ({ cls := "CiteForgeModel", name := "substring", desc := "(II)V" } : Jvm.MethodName) prog_14_method_70_code (7 : Nat) (Option.none : Option Jvm.ClassFile.FieldType)) ∈ wAll := w_of8 59 (by decide +kernel) rfl
theorem w1740 : (Jvm.Cond.methodLink "CiteForgeModel" (411 : Nat) ({ cls := "CiteForgeModel", name := "ended", desc := "()V" } : Jvm.MethodName)) ∈ wAll := w_of8 60 (by decide +kernel) rfl
theorem w1742 : (Jvm.Cond.instanceMethod ({ cls := "CiteForgeModel", name := "ended", desc := "()V" } : Jvm.MethodName)) ∈ wAll := w_of8 62 (by decide +kernel) rfl
theorem w1743 : (Jvm.Cond.code ({ cls := "CiteForgeModel", name := "ended", desc := "()V" } : Jvm.MethodName) prog_14_method_85_code (3 : Nat) (Option.none : Option Jvm.ClassFile.FieldType)) ∈ wAll := w_of8 63 (by decide +kernel) rfl
theorem w1744 : (Jvm.Cond.methodLink "CiteForgeLaw" (130 : Nat) ({ cls := "CiteForgeModel", name := "depth", desc := "()I" } : Jvm.MethodName)) ∈ wAll := w_of8 64 (by decide +kernel) rfl
theorem w1745 : (Jvm.Cond.instanceMethod ({ cls := "CiteForgeModel", name := "depth", desc := "()I" } : Jvm.MethodName)) ∈ wAll := w_of8 65 (by decide +kernel) rfl
theorem w1746 : (Jvm.Cond.selects "CiteForgeModel" ({ cls := "CiteForgeModel", name := "depth", desc := "()I" } : Jvm.MethodName) ({ cls := "CiteForgeModel", name := "depth", desc := "()I" } : Jvm.MethodName)) ∈ wAll := w_of8 66 (by decide +kernel) rfl
theorem w1747 : (Jvm.Cond.code ({ cls := "CiteForgeModel", name := "depth", desc := "()I" } : Jvm.MethodName) prog_14_method_88_code (1 : Nat) (Option.some Jvm.ClassFile.FieldType.int)) ∈ wAll := w_of8 67 (by decide +kernel) rfl
theorem w1748 : (Jvm.Cond.methodLink "CiteForgeLaw" (133 : Nat) ({ cls := "CiteForgeModel", name := "kind", desc := "(I)I" } : Jvm.MethodName)) ∈ wAll := w_of8 68 (by decide +kernel) rfl
theorem w1749 : (Jvm.Cond.instanceMethod ({ cls := "CiteForgeModel", name := "kind", desc := "(I)I" } : Jvm.MethodName)) ∈ wAll := w_of8 69 (by decide +kernel) rfl
theorem w1750 : (Jvm.Cond.selects "CiteForgeModel" ({ cls := "CiteForgeModel", name := "kind", desc := "(I)I" } : Jvm.MethodName) ({ cls := "CiteForgeModel", name := "kind", desc := "(I)I" } : Jvm.MethodName)) ∈ wAll := w_of8 70 (by decide +kernel) rfl
theorem w1751 : (Jvm.Cond.code ({ cls := "CiteForgeModel", name := "kind", desc := "(I)I" } : Jvm.MethodName) prog_14_method_90_code (2 : Nat) (Option.some Jvm.ClassFile.FieldType.int)) ∈ wAll := w_of8 71 (by decide +kernel) rfl
theorem w1752 : (Jvm.Cond.methodLink "CiteForgeModel" (417 : Nat) ({ cls := "CiteForgeModel", name := "none", desc := "(I)Z" } : Jvm.MethodName)) ∈ wAll := w_of8 72 (by decide +kernel) rfl
theorem w1754 : (Jvm.Cond.instanceMethod ({ cls := "CiteForgeModel", name := "none", desc := "(I)Z" } : Jvm.MethodName)) ∈ wAll := w_of8 74 (by decide +kernel) rfl
theorem w1755 : (Jvm.Cond.code ({ cls := "CiteForgeModel", name := "none", desc := "(I)Z" } : Jvm.MethodName) prog_14_method_89_code (2 : Nat) (Option.some Jvm.ClassFile.FieldType.boolean)) ∈ wAll := w_of8 75 (by decide +kernel) rfl
theorem w1756 : (Jvm.Cond.methodLink "CiteForgeLaw" (136 : Nat) ({ cls := "CiteForgeModel", name := "value", desc := "(I)I" } : Jvm.MethodName)) ∈ wAll := w_of8 76 (by decide +kernel) rfl
theorem w1757 : (Jvm.Cond.instanceMethod ({ cls := "CiteForgeModel", name := "value", desc := "(I)I" } : Jvm.MethodName)) ∈ wAll := w_of8 77 (by decide +kernel) rfl
theorem w1758 : (Jvm.Cond.selects "CiteForgeModel" ({ cls := "CiteForgeModel", name := "value", desc := "(I)I" } : Jvm.MethodName) ({ cls := "CiteForgeModel", name := "value", desc := "(I)I" } : Jvm.MethodName)) ∈ wAll := w_of8 78 (by decide +kernel) rfl
theorem w1759 : (Jvm.Cond.code ({ cls := "CiteForgeModel", name := "value", desc := "(I)I" } : Jvm.MethodName) prog_14_method_91_code (3 : Nat) (Option.some Jvm.ClassFile.FieldType.int)) ∈ wAll := w_of8 79 (by decide +kernel) rfl
theorem w1760 : (Jvm.Cond.methodLink "CiteForgeLaw" (139 : Nat) ({ cls := "CiteForgeModel", name := "letter", desc := "(II)I" } : Jvm.MethodName)) ∈ wAll := w_of8 80 (by decide +kernel) rfl
theorem w1761 : (Jvm.Cond.instanceMethod ({ cls := "CiteForgeModel", name := "letter", desc := "(II)I" } : Jvm.MethodName)) ∈ wAll := w_of8 81 (by decide +kernel) rfl
theorem w1762 : (Jvm.Cond.selects "CiteForgeModel" ({ cls := "CiteForgeModel", name := "letter", desc := "(II)I" } : Jvm.MethodName) ({ cls := "CiteForgeModel", name := "letter", desc := "(II)I" } : Jvm.MethodName)) ∈ wAll := w_of8 82 (by decide +kernel) rfl
theorem w1763 : (Jvm.Cond.code ({ cls := "CiteForgeModel", name := "letter", desc := "(II)I" } : Jvm.MethodName) prog_14_method_92_code (4 : Nat) (Option.some Jvm.ClassFile.FieldType.int)) ∈ wAll := w_of8 83 (by decide +kernel) rfl
theorem w1764 : (Jvm.Cond.methodLink "CiteForgeLaw" (143 : Nat) ({ cls := "CiteForgeModel", name := "empty", desc := "()I" } : Jvm.MethodName)) ∈ wAll := w_of8 84 (by decide +kernel) rfl
theorem w1765 : (Jvm.Cond.instanceMethod ({ cls := "CiteForgeModel", name := "empty", desc := "()I" } : Jvm.MethodName)) ∈ wAll := w_of8 85 (by decide +kernel) rfl
theorem w1766 : (Jvm.Cond.selects "CiteForgeModel" ({ cls := "CiteForgeModel", name := "empty", desc := "()I" } : Jvm.MethodName) ({ cls := "CiteForgeModel", name := "empty", desc := "()I" } : Jvm.MethodName)) ∈ wAll := w_of8 86 (by decide +kernel) rfl
theorem w1767 : (Jvm.Cond.code ({ cls := "CiteForgeModel", name := "empty", desc := "()I" } : Jvm.MethodName) prog_14_method_93_code (2 : Nat) (Option.some Jvm.ClassFile.FieldType.int)) ∈ wAll := w_of8 87 (by decide +kernel) rfl
theorem w1768 : (Jvm.Cond.methodLink "CiteForgeLaw" (146 : Nat) ({ cls := "CiteForgeModel", name := "line", desc := "(II)I" } : Jvm.MethodName)) ∈ wAll := w_of8 88 (by decide +kernel) rfl
theorem w1769 : (Jvm.Cond.instanceMethod ({ cls := "CiteForgeModel", name := "line", desc := "(II)I" } : Jvm.MethodName)) ∈ wAll := w_of8 89 (by decide +kernel) rfl
theorem w1770 : (Jvm.Cond.selects "CiteForgeModel" ({ cls := "CiteForgeModel", name := "line", desc := "(II)I" } : Jvm.MethodName) ({ cls := "CiteForgeModel", name := "line", desc := "(II)I" } : Jvm.MethodName)) ∈ wAll := w_of8 90 (by decide +kernel) rfl
theorem w1771 : (Jvm.Cond.code ({ cls := "CiteForgeModel", name := "line", desc := "(II)I" } : Jvm.MethodName) prog_14_method_94_code (3 : Nat) (Option.some Jvm.ClassFile.FieldType.int)) ∈ wAll := w_of8 91 (by decide +kernel) rfl
theorem w1772 : (Jvm.Cond.methodLink "CiteForgeLaw" (149 : Nat) ({ cls := "CiteForgeModel", name := "count", desc := "(I)I" } : Jvm.MethodName)) ∈ wAll := w_of8 92 (by decide +kernel) rfl
theorem w1773 : (Jvm.Cond.instanceMethod ({ cls := "CiteForgeModel", name := "count", desc := "(I)I" } : Jvm.MethodName)) ∈ wAll := w_of8 93 (by decide +kernel) rfl
theorem w1774 : (Jvm.Cond.selects "CiteForgeModel" ({ cls := "CiteForgeModel", name := "count", desc := "(I)I" } : Jvm.MethodName) ({ cls := "CiteForgeModel", name := "count", desc := "(I)I" } : Jvm.MethodName)) ∈ wAll := w_of8 94 (by decide +kernel) rfl
theorem w1775 : (Jvm.Cond.code ({ cls := "CiteForgeModel", name := "count", desc := "(I)I" } : Jvm.MethodName) prog_14_method_95_code (2 : Nat) (Option.some Jvm.ClassFile.FieldType.int)) ∈ wAll := w_of8 95 (by decide +kernel) rfl
theorem w1776 : (Jvm.Cond.methodLink "CiteForgeLaw" (152 : Nat) ({ cls := "CiteForgeModel", name := "warnings", desc := "(I)I" } : Jvm.MethodName)) ∈ wAll := w_of8 96 (by decide +kernel) rfl
theorem w1777 : (Jvm.Cond.instanceMethod ({ cls := "CiteForgeModel", name := "warnings", desc := "(I)I" } : Jvm.MethodName)) ∈ wAll := w_of8 97 (by decide +kernel) rfl
theorem w1778 : (Jvm.Cond.selects "CiteForgeModel" ({ cls := "CiteForgeModel", name := "warnings", desc := "(I)I" } : Jvm.MethodName) ({ cls := "CiteForgeModel", name := "warnings", desc := "(I)I" } : Jvm.MethodName)) ∈ wAll := w_of8 98 (by decide +kernel) rfl
theorem w1779 : (Jvm.Cond.code ({ cls := "CiteForgeModel", name := "warnings", desc := "(I)I" } : Jvm.MethodName) prog_14_method_96_code (2 : Nat) (Option.some Jvm.ClassFile.FieldType.int)) ∈ wAll := w_of8 99 (by decide +kernel) rfl
theorem w1780 : (Jvm.Cond.constantLong "CiteForgeLaw" (72 : Nat) (4294967295 : Int64)) ∈ wAll := w_of8 100 (by decide +kernel) rfl
