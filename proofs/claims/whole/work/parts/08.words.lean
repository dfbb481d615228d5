/-! 08.words: the words of the tables, each by its place; laid by a program. -/
theorem x_wi (i : Nat) {q : Cond} (h : tables_1[i]? = some q) (hg : x_gw q = true) : q ∈ x_Ts := List.mem_filter.mpr ⟨List.mem_append_right _ (List.mem_of_getElem? h), hg⟩
theorem x_wp (i : Nat) {q : Cond} (h : (k2_sels lw_privs)[i]? = some q) (hg : x_gw q = true) : q ∈ x_Ts := List.mem_filter.mpr ⟨List.mem_append_left _ (List.mem_of_getElem? h), hg⟩
theorem w0 : (Jvm.Cond.initialized "TradeLinkLaw") ∈ x_Ts := x_wi 0 (by decide +kernel) rfl
theorem w1 : (Jvm.Cond.initialized "TradeLink") ∈ x_Ts := x_wi 1 (by decide +kernel) rfl
theorem w2 : (Jvm.Cond.initialized "TradeLink$Inbox") ∈ x_Ts := x_wi 2 (by decide +kernel) rfl
theorem w3 : (Jvm.Cond.initialized "TradeLink$Row") ∈ x_Ts := x_wi 3 (by decide +kernel) rfl
theorem w4 : (Jvm.Cond.initialized "TradeLink$Message") ∈ x_Ts := x_wi 4 (by decide +kernel) rfl
theorem w5 : (Jvm.Cond.initialized "TradeLink$Session") ∈ x_Ts := x_wi 5 (by decide +kernel) rfl
theorem w6 : (Jvm.Cond.initialized "TradeLink$Outbox") ∈ x_Ts := x_wi 6 (by decide +kernel) rfl
theorem w7 : (Jvm.Cond.initialized "TradeLink$Book") ∈ x_Ts := x_wi 7 (by decide +kernel) rfl
theorem w8 : (Jvm.Cond.initialized "TradeLink$Order") ∈ x_Ts := x_wi 8 (by decide +kernel) rfl
theorem w9 : (Jvm.Cond.initialized "TradeLink$Store") ∈ x_Ts := x_wi 9 (by decide +kernel) rfl
theorem w10 : (Jvm.Cond.initialized "TradeLinkModel") ∈ x_Ts := x_wi 10 (by decide +kernel) rfl
theorem w11 : (Jvm.Cond.initialized "TradeLink$Layout") ∈ x_Ts := x_wi 11 (by decide +kernel) rfl
theorem w12 : (Jvm.Cond.initialized "java/lang/Throwable") ∈ x_Ts := x_wi 12 (by decide +kernel) rfl
theorem w13 : (Jvm.Cond.initialized "java/lang/Exception") ∈ x_Ts := x_wi 13 (by decide +kernel) rfl
theorem w14 : (Jvm.Cond.initialized "java/lang/RuntimeException") ∈ x_Ts := x_wi 14 (by decide +kernel) rfl
theorem w15 : (Jvm.Cond.initialized "java/lang/IllegalArgumentException") ∈ x_Ts := x_wi 15 (by decide +kernel) rfl
theorem w16 : (Jvm.Cond.initialized "java/lang/IndexOutOfBoundsException") ∈ x_Ts := x_wi 16 (by decide +kernel) rfl
theorem w17 : (Jvm.Cond.initialized "java/lang/IllegalStateException") ∈ x_Ts := x_wi 17 (by decide +kernel) rfl
theorem w18 : (Jvm.Cond.initialized "java/lang/Math") ∈ x_Ts := x_wi 18 (by decide +kernel) rfl
theorem w19 : (Jvm.Cond.initialized "java/util/NoSuchElementException") ∈ x_Ts := x_wi 19 (by decide +kernel) rfl
theorem w20 : (Jvm.Cond.classLink "TradeLinkLaw" (8 : Nat) "TradeLink") ∈ x_Ts := x_wi 20 (by decide +kernel) rfl
theorem w21 : (Jvm.Cond.instantiable "TradeLink" (3 : Nat)) ∈ x_Ts := x_wi 21 (by decide +kernel) rfl
theorem w22 : (Jvm.Cond.methodLink "TradeLinkLaw" (48 : Nat) ({ cls := "TradeLink", name := "<init>", desc := "()V" } : Jvm.MethodName)) ∈ x_Ts := x_wi 22 (by decide +kernel) rfl
theorem w23 : (Jvm.Cond.instanceMethod ({ cls := "TradeLink", name := "<init>", desc := "()V" } : Jvm.MethodName)) ∈ x_Ts := x_wi 23 (by decide +kernel) rfl
theorem w24 : (Jvm.Cond.code ({ cls := "TradeLink", name := "<init>", desc := "()V" } : Jvm.MethodName) prog_1_method_1_code (1 : Nat) (Option.none : Option Jvm.ClassFile.FieldType)) ∈ x_Ts := x_wi 24 (by decide +kernel) rfl
theorem w25 : (Jvm.Cond.methodLink "TradeLink" (1 : Nat) ({ cls := "java/lang/Object", name := "<init>", desc := "()V" } : Jvm.MethodName)) ∈ x_Ts := x_wi 25 (by decide +kernel) rfl
theorem w26 : (Jvm.Cond.instanceMethod ({ cls := "java/lang/Object", name := "<init>", desc := "()V" } : Jvm.MethodName)) ∈ x_Ts := x_wi 26 (by decide +kernel) rfl
theorem w27 : (Jvm.Cond.code ({ cls := "java/lang/Object", name := "<init>", desc := "()V" } : Jvm.MethodName) object_method_1_code (1 : Nat) (Option.none : Option Jvm.ClassFile.FieldType)) ∈ x_Ts := x_wi 27 (by decide +kernel) rfl
theorem w28 : (Jvm.Cond.classLink "TradeLink" (7 : Nat) "TradeLink$Inbox") ∈ x_Ts := x_wi 28 (by decide +kernel) rfl
theorem w29 : (Jvm.Cond.instantiable "TradeLink$Inbox" (2 : Nat)) ∈ x_Ts := x_wi 29 (by decide +kernel) rfl
theorem w30 : (Jvm.Cond.methodLinkNest "TradeLink" (9 : Nat) ({ cls := "TradeLink$Inbox", name := "<init>", desc := "()V" } : Jvm.MethodName) "TradeLink") ∈ x_Ts := x_wi 30 (by decide +kernel) rfl
theorem w31 : (Jvm.Cond.instanceMethod ({ cls := "TradeLink$Inbox", name := "<init>", desc := "()V" } : Jvm.MethodName)) ∈ x_Ts := x_wi 31 (by decide +kernel) rfl
theorem w32 : (Jvm.Cond.code ({ cls := "TradeLink$Inbox", name := "<init>", desc := "()V" } : Jvm.MethodName) prog_3_method_1_code (1 : Nat) (Option.none : Option Jvm.ClassFile.FieldType)) ∈ x_Ts := x_wi 32 (by decide +kernel) rfl
theorem w33 : (Jvm.Cond.methodLink "TradeLink$Inbox" (3 : Nat) ({ cls := "java/lang/Object", name := "<init>", desc := "()V" } : Jvm.MethodName)) ∈ x_Ts := x_wi 33 (by decide +kernel) rfl
theorem w34 : (Jvm.Cond.classLink "TradeLink$Inbox" (9 : Nat) "TradeLink$Row") ∈ x_Ts := x_wi 34 (by decide +kernel) rfl
theorem w35 : (Jvm.Cond.instantiable "TradeLink$Row" (2 : Nat)) ∈ x_Ts := x_wi 35 (by decide +kernel) rfl
theorem w36 : (Jvm.Cond.methodLinkNest "TradeLink$Inbox" (11 : Nat) ({ cls := "TradeLink$Row", name := "<init>", desc := "()V" } : Jvm.MethodName) "TradeLink") ∈ x_Ts := x_wi 36 (by decide +kernel) rfl
theorem w37 : (Jvm.Cond.instanceMethod ({ cls := "TradeLink$Row", name := "<init>", desc := "()V" } : Jvm.MethodName)) ∈ x_Ts := x_wi 37 (by decide +kernel) rfl
theorem w38 : (Jvm.Cond.code ({ cls := "TradeLink$Row", name := "<init>", desc := "()V" } : Jvm.MethodName) prog_8_method_1_code (1 : Nat) (Option.none : Option Jvm.ClassFile.FieldType)) ∈ x_Ts := x_wi 38 (by decide +kernel) rfl
theorem w39 : (Jvm.Cond.methodLink "TradeLink$Row" (3 : Nat) ({ cls := "java/lang/Object", name := "<init>", desc := "()V" } : Jvm.MethodName)) ∈ x_Ts := x_wi 39 (by decide +kernel) rfl
theorem w40 : (Jvm.Cond.fieldLink "TradeLink$Row" (11 : Nat) "TradeLink$Row" "octets" "[I") ∈ x_Ts := x_wi 40 (by decide +kernel) rfl
theorem w41 : (Jvm.Cond.fieldLink "TradeLink$Row" (15 : Nat) "TradeLink$Row" "size" "I") ∈ x_Ts := x_wi 41 (by decide +kernel) rfl
theorem w42 : (Jvm.Cond.fieldLink "TradeLink" (67 : Nat) "TradeLink$Row" "size" "I") ∈ x_Ts := x_wi 42 (by decide +kernel) rfl
theorem w43 : (Jvm.Cond.fieldLink "TradeLink$Message" (40 : Nat) "TradeLink$Row" "size" "I") ∈ x_Ts := x_wi 43 (by decide +kernel) rfl
theorem w44 : (Jvm.Cond.fieldLink "TradeLink$Inbox" (76 : Nat) "TradeLink$Row" "size" "I") ∈ x_Ts := x_wi 44 (by decide +kernel) rfl
theorem w50 : (Jvm.Cond.arrayClass Jvm.ClassFile.FieldType.int) ∈ x_Ts := x_wi 50 (by decide +kernel) rfl
theorem w51 : (Jvm.Cond.fieldLink "TradeLink$Inbox" (12 : Nat) "TradeLink$Inbox" "row" "LTradeLink$Row;") ∈ x_Ts := x_wi 51 (by decide +kernel) rfl
theorem w52 : (Jvm.Cond.fieldLink "TradeLink" (59 : Nat) "TradeLink$Inbox" "row" "LTradeLink$Row;") ∈ x_Ts := x_wi 52 (by decide +kernel) rfl
theorem w53 : (Jvm.Cond.fieldLink "TradeLink$Inbox" (18 : Nat) "TradeLink$Inbox" "at" "I") ∈ x_Ts := x_wi 53 (by decide +kernel) rfl
theorem w59 : (Jvm.Cond.classLink "TradeLink" (16 : Nat) "TradeLink$Message") ∈ x_Ts := x_wi 59 (by decide +kernel) rfl
theorem w60 : (Jvm.Cond.instantiable "TradeLink$Message" (4 : Nat)) ∈ x_Ts := x_wi 60 (by decide +kernel) rfl
theorem w61 : (Jvm.Cond.methodLinkNest "TradeLink" (18 : Nat) ({ cls := "TradeLink$Message", name := "<init>", desc := "()V" } : Jvm.MethodName) "TradeLink") ∈ x_Ts := x_wi 61 (by decide +kernel) rfl
theorem w62 : (Jvm.Cond.instanceMethod ({ cls := "TradeLink$Message", name := "<init>", desc := "()V" } : Jvm.MethodName)) ∈ x_Ts := x_wi 62 (by decide +kernel) rfl
theorem w63 : (Jvm.Cond.code ({ cls := "TradeLink$Message", name := "<init>", desc := "()V" } : Jvm.MethodName) prog_5_method_1_code (1 : Nat) (Option.none : Option Jvm.ClassFile.FieldType)) ∈ x_Ts := x_wi 63 (by decide +kernel) rfl
theorem w64 : (Jvm.Cond.methodLink "TradeLink$Message" (3 : Nat) ({ cls := "java/lang/Object", name := "<init>", desc := "()V" } : Jvm.MethodName)) ∈ x_Ts := x_wi 64 (by decide +kernel) rfl
theorem w65 : (Jvm.Cond.fieldLink "TradeLink$Message" (17 : Nat) "TradeLink$Message" "type" "I") ∈ x_Ts := x_wi 65 (by decide +kernel) rfl
theorem w66 : (Jvm.Cond.fieldLink "TradeLink$Session" (43 : Nat) "TradeLink$Message" "type" "I") ∈ x_Ts := x_wi 66 (by decide +kernel) rfl
theorem w67 : (Jvm.Cond.fieldLink "TradeLink$Inbox" (55 : Nat) "TradeLink$Message" "type" "I") ∈ x_Ts := x_wi 67 (by decide +kernel) rfl
theorem w68 : (Jvm.Cond.fieldLink "TradeLink$Book" (46 : Nat) "TradeLink$Message" "type" "I") ∈ x_Ts := x_wi 68 (by decide +kernel) rfl
theorem w69 : (Jvm.Cond.fieldLink "TradeLink$Message" (21 : Nat) "TradeLink$Message" "number" "I") ∈ x_Ts := x_wi 69 (by decide +kernel) rfl
theorem w70 : (Jvm.Cond.fieldLink "TradeLink$Session" (66 : Nat) "TradeLink$Message" "number" "I") ∈ x_Ts := x_wi 70 (by decide +kernel) rfl
theorem w71 : (Jvm.Cond.fieldLink "TradeLink$Message" (24 : Nat) "TradeLink$Message" "duplicate" "Z") ∈ x_Ts := x_wi 71 (by decide +kernel) rfl
theorem w72 : (Jvm.Cond.fieldLink "TradeLink$Session" (69 : Nat) "TradeLink$Message" "duplicate" "Z") ∈ x_Ts := x_wi 72 (by decide +kernel) rfl
theorem w73 : (Jvm.Cond.fieldLink "TradeLink$Message" (11 : Nat) "TradeLink$Message" "values" "[I") ∈ x_Ts := x_wi 73 (by decide +kernel) rfl
theorem w74 : (Jvm.Cond.fieldLink "TradeLink$Session" (58 : Nat) "TradeLink$Message" "values" "[I") ∈ x_Ts := x_wi 74 (by decide +kernel) rfl
theorem w75 : (Jvm.Cond.fieldLink "TradeLink$Book" (37 : Nat) "TradeLink$Message" "values" "[I") ∈ x_Ts := x_wi 75 (by decide +kernel) rfl
theorem w76 : (Jvm.Cond.fieldLink "TradeLink$Inbox" (62 : Nat) "TradeLink$Message" "values" "[I") ∈ x_Ts := x_wi 76 (by decide +kernel) rfl
theorem w86 : (Jvm.Cond.classLink "TradeLink" (23 : Nat) "TradeLink$Session") ∈ x_Ts := x_wi 86 (by decide +kernel) rfl
theorem w87 : (Jvm.Cond.instantiable "TradeLink$Session" (12 : Nat)) ∈ x_Ts := x_wi 87 (by decide +kernel) rfl
theorem w88 : (Jvm.Cond.methodLinkNest "TradeLink" (25 : Nat) ({ cls := "TradeLink$Session", name := "<init>", desc := "()V" } : Jvm.MethodName) "TradeLink") ∈ x_Ts := x_wi 88 (by decide +kernel) rfl
theorem w89 : (Jvm.Cond.instanceMethod ({ cls := "TradeLink$Session", name := "<init>", desc := "()V" } : Jvm.MethodName)) ∈ x_Ts := x_wi 89 (by decide +kernel) rfl
theorem w90 : (Jvm.Cond.code ({ cls := "TradeLink$Session", name := "<init>", desc := "()V" } : Jvm.MethodName) prog_9_method_1_code (1 : Nat) (Option.none : Option Jvm.ClassFile.FieldType)) ∈ x_Ts := x_wi 90 (by decide +kernel) rfl
theorem w91 : (Jvm.Cond.methodLink "TradeLink$Session" (3 : Nat) ({ cls := "java/lang/Object", name := "<init>", desc := "()V" } : Jvm.MethodName)) ∈ x_Ts := x_wi 91 (by decide +kernel) rfl
theorem w92 : (Jvm.Cond.classLink "TradeLink$Session" (9 : Nat) "TradeLink$Outbox") ∈ x_Ts := x_wi 92 (by decide +kernel) rfl
theorem w93 : (Jvm.Cond.instantiable "TradeLink$Outbox" (3 : Nat)) ∈ x_Ts := x_wi 93 (by decide +kernel) rfl
theorem w94 : (Jvm.Cond.methodLink "TradeLink$Session" (11 : Nat) ({ cls := "TradeLink$Outbox", name := "<init>", desc := "()V" } : Jvm.MethodName)) ∈ x_Ts := x_wi 94 (by decide +kernel) rfl
theorem w95 : (Jvm.Cond.instanceMethod ({ cls := "TradeLink$Outbox", name := "<init>", desc := "()V" } : Jvm.MethodName)) ∈ x_Ts := x_wi 95 (by decide +kernel) rfl
theorem w96 : (Jvm.Cond.code ({ cls := "TradeLink$Outbox", name := "<init>", desc := "()V" } : Jvm.MethodName) prog_7_method_1_code (2 : Nat) (Option.none : Option Jvm.ClassFile.FieldType)) ∈ x_Ts := x_wi 96 (by decide +kernel) rfl
theorem w97 : (Jvm.Cond.methodLink "TradeLink$Outbox" (1 : Nat) ({ cls := "java/lang/Object", name := "<init>", desc := "()V" } : Jvm.MethodName)) ∈ x_Ts := x_wi 97 (by decide +kernel) rfl
theorem w98 : (Jvm.Cond.classLink "TradeLink$Outbox" (9 : Nat) "TradeLink$Message") ∈ x_Ts := x_wi 98 (by decide +kernel) rfl
theorem w99 : (Jvm.Cond.arrayOver (Jvm.ClassFile.FieldType.object "TradeLink$Message")) ∈ x_Ts := x_wi 99 (by decide +kernel) rfl
theorem w100 : (Jvm.Cond.classLink "TradeLink$Outbox" (15 : Nat) "TradeLink$Row") ∈ x_Ts := x_wi 100 (by decide +kernel) rfl
theorem w101 : (Jvm.Cond.methodLinkNest "TradeLink$Outbox" (17 : Nat) ({ cls := "TradeLink$Row", name := "<init>", desc := "()V" } : Jvm.MethodName) "TradeLink") ∈ x_Ts := x_wi 101 (by decide +kernel) rfl
theorem w102 : (Jvm.Cond.methodLinkNest "TradeLink$Outbox" (22 : Nat) ({ cls := "TradeLink$Message", name := "<init>", desc := "()V" } : Jvm.MethodName) "TradeLink") ∈ x_Ts := x_wi 102 (by decide +kernel) rfl
theorem w103 : (Jvm.Cond.fieldLink "TradeLink$Outbox" (11 : Nat) "TradeLink$Outbox" "messages" "[LTradeLink$Message;") ∈ x_Ts := x_wi 103 (by decide +kernel) rfl
theorem w104 : (Jvm.Cond.fieldLink "TradeLink$Outbox" (18 : Nat) "TradeLink$Outbox" "written" "LTradeLink$Row;") ∈ x_Ts := x_wi 104 (by decide +kernel) rfl
theorem w105 : (Jvm.Cond.fieldLink "TradeLink$Outbox" (23 : Nat) "TradeLink$Outbox" "count" "I") ∈ x_Ts := x_wi 105 (by decide +kernel) rfl
theorem w106 : (Jvm.Cond.fieldLink "TradeLink" (146 : Nat) "TradeLink$Outbox" "count" "I") ∈ x_Ts := x_wi 106 (by decide +kernel) rfl
theorem w114 : (Jvm.Cond.classLink "TradeLink$Session" (18 : Nat) "TradeLink$Book") ∈ x_Ts := x_wi 114 (by decide +kernel) rfl
theorem w115 : (Jvm.Cond.instantiable "TradeLink$Book" (4 : Nat)) ∈ x_Ts := x_wi 115 (by decide +kernel) rfl
theorem w116 : (Jvm.Cond.methodLink "TradeLink$Session" (20 : Nat) ({ cls := "TradeLink$Book", name := "<init>", desc := "()V" } : Jvm.MethodName)) ∈ x_Ts := x_wi 116 (by decide +kernel) rfl
theorem w117 : (Jvm.Cond.instanceMethod ({ cls := "TradeLink$Book", name := "<init>", desc := "()V" } : Jvm.MethodName)) ∈ x_Ts := x_wi 117 (by decide +kernel) rfl
theorem w118 : (Jvm.Cond.code ({ cls := "TradeLink$Book", name := "<init>", desc := "()V" } : Jvm.MethodName) prog_2_method_1_code (2 : Nat) (Option.none : Option Jvm.ClassFile.FieldType)) ∈ x_Ts := x_wi 118 (by decide +kernel) rfl
theorem w119 : (Jvm.Cond.methodLink "TradeLink$Book" (3 : Nat) ({ cls := "java/lang/Object", name := "<init>", desc := "()V" } : Jvm.MethodName)) ∈ x_Ts := x_wi 119 (by decide +kernel) rfl
theorem w120 : (Jvm.Cond.classLink "TradeLink$Book" (11 : Nat) "TradeLink$Order") ∈ x_Ts := x_wi 120 (by decide +kernel) rfl
theorem w121 : (Jvm.Cond.arrayOver (Jvm.ClassFile.FieldType.object "TradeLink$Order")) ∈ x_Ts := x_wi 121 (by decide +kernel) rfl
theorem w122 : (Jvm.Cond.instantiable "TradeLink$Order" (5 : Nat)) ∈ x_Ts := x_wi 122 (by decide +kernel) rfl
theorem w123 : (Jvm.Cond.methodLinkNest "TradeLink$Book" (21 : Nat) ({ cls := "TradeLink$Order", name := "<init>", desc := "()V" } : Jvm.MethodName) "TradeLink") ∈ x_Ts := x_wi 123 (by decide +kernel) rfl
theorem w124 : (Jvm.Cond.instanceMethod ({ cls := "TradeLink$Order", name := "<init>", desc := "()V" } : Jvm.MethodName)) ∈ x_Ts := x_wi 124 (by decide +kernel) rfl
theorem w125 : (Jvm.Cond.code ({ cls := "TradeLink$Order", name := "<init>", desc := "()V" } : Jvm.MethodName) prog_6_method_1_code (1 : Nat) (Option.none : Option Jvm.ClassFile.FieldType)) ∈ x_Ts := x_wi 125 (by decide +kernel) rfl
theorem w126 : (Jvm.Cond.methodLink "TradeLink$Order" (1 : Nat) ({ cls := "java/lang/Object", name := "<init>", desc := "()V" } : Jvm.MethodName)) ∈ x_Ts := x_wi 126 (by decide +kernel) rfl
theorem w127 : (Jvm.Cond.fieldLink "TradeLink$Book" (26 : Nat) "TradeLink$Order" "id" "I") ∈ x_Ts := x_wi 127 (by decide +kernel) rfl
theorem w128 : (Jvm.Cond.fieldLink "TradeLink$Book" (61 : Nat) "TradeLink$Order" "side" "I") ∈ x_Ts := x_wi 128 (by decide +kernel) rfl
theorem w129 : (Jvm.Cond.fieldLink "TradeLink" (172 : Nat) "TradeLink$Order" "side" "I") ∈ x_Ts := x_wi 129 (by decide +kernel) rfl
theorem w130 : (Jvm.Cond.fieldLink "TradeLink$Order" (17 : Nat) "TradeLink$Order" "quantity" "I") ∈ x_Ts := x_wi 130 (by decide +kernel) rfl
theorem w131 : (Jvm.Cond.fieldLink "TradeLink$Book" (64 : Nat) "TradeLink$Order" "quantity" "I") ∈ x_Ts := x_wi 131 (by decide +kernel) rfl
theorem w132 : (Jvm.Cond.fieldLink "TradeLink" (175 : Nat) "TradeLink$Order" "quantity" "I") ∈ x_Ts := x_wi 132 (by decide +kernel) rfl
theorem w133 : (Jvm.Cond.fieldLink "TradeLink$Order" (13 : Nat) "TradeLink$Order" "filled" "I") ∈ x_Ts := x_wi 133 (by decide +kernel) rfl
theorem w134 : (Jvm.Cond.fieldLink "TradeLink$Session" (109 : Nat) "TradeLink$Order" "filled" "I") ∈ x_Ts := x_wi 134 (by decide +kernel) rfl
theorem w135 : (Jvm.Cond.fieldLink "TradeLink$Book" (70 : Nat) "TradeLink$Order" "filled" "I") ∈ x_Ts := x_wi 135 (by decide +kernel) rfl
theorem w136 : (Jvm.Cond.fieldLink "TradeLink" (139 : Nat) "TradeLink$Order" "filled" "I") ∈ x_Ts := x_wi 136 (by decide +kernel) rfl
theorem w137 : (Jvm.Cond.fieldLink "TradeLink$Order" (7 : Nat) "TradeLink$Order" "cancelled" "Z") ∈ x_Ts := x_wi 137 (by decide +kernel) rfl
theorem w138 : (Jvm.Cond.fieldLink "TradeLink$Book" (73 : Nat) "TradeLink$Order" "cancelled" "Z") ∈ x_Ts := x_wi 138 (by decide +kernel) rfl
theorem w150 : (Jvm.Cond.fieldLink "TradeLink$Book" (13 : Nat) "TradeLink$Book" "orders" "[LTradeLink$Order;") ∈ x_Ts := x_wi 150 (by decide +kernel) rfl
theorem w151 : (Jvm.Cond.fieldLink "TradeLink$Book" (22 : Nat) "TradeLink$Book" "count" "I") ∈ x_Ts := x_wi 151 (by decide +kernel) rfl
theorem w152 : (Jvm.Cond.fieldLink "TradeLink" (165 : Nat) "TradeLink$Book" "count" "I") ∈ x_Ts := x_wi 152 (by decide +kernel) rfl
theorem w153 : (Jvm.Cond.fieldLink "TradeLink$Book" (17 : Nat) "TradeLink$Book" "usedIds" "[I") ∈ x_Ts := x_wi 153 (by decide +kernel) rfl
theorem w154 : (Jvm.Cond.fieldLink "TradeLink$Book" (77 : Nat) "TradeLink$Book" "usedCount" "I") ∈ x_Ts := x_wi 154 (by decide +kernel) rfl
theorem w164 : (Jvm.Cond.classLink "TradeLink$Session" (25 : Nat) "TradeLink$Store") ∈ x_Ts := x_wi 164 (by decide +kernel) rfl
theorem w165 : (Jvm.Cond.instantiable "TradeLink$Store" (2 : Nat)) ∈ x_Ts := x_wi 165 (by decide +kernel) rfl
theorem w166 : (Jvm.Cond.methodLinkNest "TradeLink$Session" (27 : Nat) ({ cls := "TradeLink$Store", name := "<init>", desc := "()V" } : Jvm.MethodName) "TradeLink") ∈ x_Ts := x_wi 166 (by decide +kernel) rfl
theorem w167 : (Jvm.Cond.instanceMethod ({ cls := "TradeLink$Store", name := "<init>", desc := "()V" } : Jvm.MethodName)) ∈ x_Ts := x_wi 167 (by decide +kernel) rfl
theorem w168 : (Jvm.Cond.code ({ cls := "TradeLink$Store", name := "<init>", desc := "()V" } : Jvm.MethodName) prog_10_method_1_code (1 : Nat) (Option.none : Option Jvm.ClassFile.FieldType)) ∈ x_Ts := x_wi 168 (by decide +kernel) rfl
theorem w169 : (Jvm.Cond.methodLink "TradeLink$Store" (3 : Nat) ({ cls := "java/lang/Object", name := "<init>", desc := "()V" } : Jvm.MethodName)) ∈ x_Ts := x_wi 169 (by decide +kernel) rfl
theorem w170 : (Jvm.Cond.fieldLink "TradeLink$Store" (11 : Nat) "TradeLink$Store" "rows" "[I") ∈ x_Ts := x_wi 170 (by decide +kernel) rfl
theorem w171 : (Jvm.Cond.fieldLink "TradeLink$Store" (15 : Nat) "TradeLink$Store" "count" "I") ∈ x_Ts := x_wi 171 (by decide +kernel) rfl
theorem w172 : (Jvm.Cond.fieldLink "TradeLink$Session" (151 : Nat) "TradeLink$Store" "count" "I") ∈ x_Ts := x_wi 172 (by decide +kernel) rfl
theorem w178 : (Jvm.Cond.fieldLink "TradeLink$Session" (12 : Nat) "TradeLink$Session" "outbox" "LTradeLink$Outbox;") ∈ x_Ts := x_wi 178 (by decide +kernel) rfl
theorem w179 : (Jvm.Cond.fieldLink "TradeLink" (42 : Nat) "TradeLink$Session" "outbox" "LTradeLink$Outbox;") ∈ x_Ts := x_wi 179 (by decide +kernel) rfl
theorem w180 : (Jvm.Cond.fieldLink "TradeLink$Session" (21 : Nat) "TradeLink$Session" "book" "LTradeLink$Book;") ∈ x_Ts := x_wi 180 (by decide +kernel) rfl
theorem w181 : (Jvm.Cond.fieldLink "TradeLink" (120 : Nat) "TradeLink$Session" "book" "LTradeLink$Book;") ∈ x_Ts := x_wi 181 (by decide +kernel) rfl
theorem w182 : (Jvm.Cond.fieldLink "TradeLink$Session" (28 : Nat) "TradeLink$Session" "store" "LTradeLink$Store;") ∈ x_Ts := x_wi 182 (by decide +kernel) rfl
theorem w183 : (Jvm.Cond.fieldLink "TradeLink$Session" (32 : Nat) "TradeLink$Session" "awaited" "I") ∈ x_Ts := x_wi 183 (by decide +kernel) rfl
theorem w184 : (Jvm.Cond.fieldLink "TradeLink" (156 : Nat) "TradeLink$Session" "awaited" "I") ∈ x_Ts := x_wi 184 (by decide +kernel) rfl
theorem w185 : (Jvm.Cond.fieldLink "TradeLink$Session" (36 : Nat) "TradeLink$Session" "next" "I") ∈ x_Ts := x_wi 185 (by decide +kernel) rfl
theorem w186 : (Jvm.Cond.fieldLink "TradeLink" (159 : Nat) "TradeLink$Session" "next" "I") ∈ x_Ts := x_wi 186 (by decide +kernel) rfl
theorem w187 : (Jvm.Cond.fieldLink "TradeLink$Session" (91 : Nat) "TradeLink$Session" "missing" "I") ∈ x_Ts := x_wi 187 (by decide +kernel) rfl
theorem w188 : (Jvm.Cond.fieldLink "TradeLink" (162 : Nat) "TradeLink$Session" "missing" "I") ∈ x_Ts := x_wi 188 (by decide +kernel) rfl
theorem w189 : (Jvm.Cond.fieldLink "TradeLink$Session" (39 : Nat) "TradeLink$Session" "in" "Z") ∈ x_Ts := x_wi 189 (by decide +kernel) rfl
theorem w190 : (Jvm.Cond.fieldLink "TradeLink" (113 : Nat) "TradeLink$Session" "in" "Z") ∈ x_Ts := x_wi 190 (by decide +kernel) rfl
theorem w191 : (Jvm.Cond.fieldLink "TradeLink$Session" (48 : Nat) "TradeLink$Session" "time" "I") ∈ x_Ts := x_wi 191 (by decide +kernel) rfl
theorem w192 : (Jvm.Cond.fieldLink "TradeLink" (110 : Nat) "TradeLink$Session" "time" "I") ∈ x_Ts := x_wi 192 (by decide +kernel) rfl
theorem w193 : (Jvm.Cond.fieldLink "TradeLink$Session" (137 : Nat) "TradeLink$Session" "orderMessages" "I") ∈ x_Ts := x_wi 193 (by decide +kernel) rfl
theorem w194 : (Jvm.Cond.fieldLink "TradeLink" (166 : Nat) "TradeLink$Session" "orderMessages" "I") ∈ x_Ts := x_wi 194 (by decide +kernel) rfl
theorem w195 : (Jvm.Cond.fieldLink "TradeLink$Session" (51 : Nat) "TradeLink$Session" "heard" "I") ∈ x_Ts := x_wi 195 (by decide +kernel) rfl
theorem w196 : (Jvm.Cond.fieldLink "TradeLink$Session" (100 : Nat) "TradeLink$Session" "said" "I") ∈ x_Ts := x_wi 196 (by decide +kernel) rfl
theorem w197 : (Jvm.Cond.fieldLink "TradeLink$Session" (94 : Nat) "TradeLink$Session" "asked" "I") ∈ x_Ts := x_wi 197 (by decide +kernel) rfl
theorem w223 : (Jvm.Cond.fieldLink "TradeLink" (10 : Nat) "TradeLink" "inbox" "LTradeLink$Inbox;") ∈ x_Ts := x_wi 223 (by decide +kernel) rfl
theorem w224 : (Jvm.Cond.fieldLink "TradeLink" (19 : Nat) "TradeLink" "message" "LTradeLink$Message;") ∈ x_Ts := x_wi 224 (by decide +kernel) rfl
theorem w225 : (Jvm.Cond.fieldLink "TradeLink" (26 : Nat) "TradeLink" "link" "LTradeLink$Session;") ∈ x_Ts := x_wi 225 (by decide +kernel) rfl
theorem w233 : (Jvm.Cond.methodLink "TradeLinkLaw" (73 : Nat) ({ cls := "TradeLink", name := "tick", desc := "()I" } : Jvm.MethodName)) ∈ x_Ts := x_wi 233 (by decide +kernel) rfl
theorem w234 : (Jvm.Cond.instanceMethod ({ cls := "TradeLink", name := "tick", desc := "()I" } : Jvm.MethodName)) ∈ x_Ts := x_wi 234 (by decide +kernel) rfl
theorem w235 : (Jvm.Cond.selects "TradeLink" ({ cls := "TradeLink", name := "tick", desc := "()I" } : Jvm.MethodName) ({ cls := "TradeLink", name := "tick", desc := "()I" } : Jvm.MethodName)) ∈ x_Ts := x_wi 235 (by decide +kernel) rfl
theorem w236 : (Jvm.Cond.code ({ cls := "TradeLink", name := "tick", desc := "()I" } : Jvm.MethodName) prog_1_method_6_code (1 : Nat) (Option.some Jvm.ClassFile.FieldType.int)) ∈ x_Ts := x_wi 236 (by decide +kernel) rfl
theorem w237 : (Jvm.Cond.methodLink "TradeLink" (46 : Nat) ({ cls := "TradeLink$Outbox", name := "clear", desc := "()V" } : Jvm.MethodName)) ∈ x_Ts := x_wi 237 (by decide +kernel) rfl
theorem w238 : (Jvm.Cond.instanceMethod ({ cls := "TradeLink$Outbox", name := "clear", desc := "()V" } : Jvm.MethodName)) ∈ x_Ts := x_wi 238 (by decide +kernel) rfl
theorem w239 : (Jvm.Cond.selects "TradeLink$Outbox" ({ cls := "TradeLink$Outbox", name := "clear", desc := "()V" } : Jvm.MethodName) ({ cls := "TradeLink$Outbox", name := "clear", desc := "()V" } : Jvm.MethodName)) ∈ x_Ts := x_wi 239 (by decide +kernel) rfl
theorem w240 : (Jvm.Cond.code ({ cls := "TradeLink$Outbox", name := "clear", desc := "()V" } : Jvm.MethodName) prog_7_method_2_code (1 : Nat) (Option.none : Option Jvm.ClassFile.FieldType)) ∈ x_Ts := x_wi 240 (by decide +kernel) rfl
theorem w241 : (Jvm.Cond.methodLink "TradeLink" (107 : Nat) ({ cls := "TradeLink$Session", name := "advance", desc := "()V" } : Jvm.MethodName)) ∈ x_Ts := x_wi 241 (by decide +kernel) rfl
theorem w242 : (Jvm.Cond.instanceMethod ({ cls := "TradeLink$Session", name := "advance", desc := "()V" } : Jvm.MethodName)) ∈ x_Ts := x_wi 242 (by decide +kernel) rfl
theorem w243 : (Jvm.Cond.selects "TradeLink$Session" ({ cls := "TradeLink$Session", name := "advance", desc := "()V" } : Jvm.MethodName) ({ cls := "TradeLink$Session", name := "advance", desc := "()V" } : Jvm.MethodName)) ∈ x_Ts := x_wi 243 (by decide +kernel) rfl
theorem w244 : (Jvm.Cond.code ({ cls := "TradeLink$Session", name := "advance", desc := "()V" } : Jvm.MethodName) prog_9_method_3_code (1 : Nat) (Option.none : Option Jvm.ClassFile.FieldType)) ∈ x_Ts := x_wi 244 (by decide +kernel) rfl
theorem w245 : (Jvm.Cond.methodLink "TradeLink$Session" (88 : Nat) ({ cls := "TradeLink$Session", name := "logOut", desc := "()V" } : Jvm.MethodName)) ∈ x_Ts := x_wi 245 (by decide +kernel) rfl
theorem w247 : (Jvm.Cond.instanceMethod ({ cls := "TradeLink$Session", name := "logOut", desc := "()V" } : Jvm.MethodName)) ∈ x_Ts := x_wi 247 (by decide +kernel) rfl
theorem w248 : (Jvm.Cond.code ({ cls := "TradeLink$Session", name := "logOut", desc := "()V" } : Jvm.MethodName) prog_9_method_11_code (1 : Nat) (Option.none : Option Jvm.ClassFile.FieldType)) ∈ x_Ts := x_wi 248 (by decide +kernel) rfl
theorem w249 : (Jvm.Cond.methodLink "TradeLink$Session" (76 : Nat) ({ cls := "TradeLink$Session", name := "send", desc := "(III)V" } : Jvm.MethodName)) ∈ x_Ts := x_wi 249 (by decide +kernel) rfl
theorem w251 : (Jvm.Cond.instanceMethod ({ cls := "TradeLink$Session", name := "send", desc := "(III)V" } : Jvm.MethodName)) ∈ x_Ts := x_wi 251 (by decide +kernel) rfl
theorem w252 : (Jvm.Cond.code ({ cls := "TradeLink$Session", name := "send", desc := "(III)V" } : Jvm.MethodName) prog_9_method_12_code (4 : Nat) (Option.none : Option Jvm.ClassFile.FieldType)) ∈ x_Ts := x_wi 252 (by decide +kernel) rfl
theorem w253 : (Jvm.Cond.methodLink "TradeLink$Session" (119 : Nat) ({ cls := "TradeLink$Session", name := "post", desc := "(IIZ)LTradeLink$Message;" } : Jvm.MethodName)) ∈ x_Ts := x_wi 253 (by decide +kernel) rfl
theorem w255 : (Jvm.Cond.instanceMethod ({ cls := "TradeLink$Session", name := "post", desc := "(IIZ)LTradeLink$Message;" } : Jvm.MethodName)) ∈ x_Ts := x_wi 255 (by decide +kernel) rfl
theorem w256 : (Jvm.Cond.code ({ cls := "TradeLink$Session", name := "post", desc := "(IIZ)LTradeLink$Message;" } : Jvm.MethodName) prog_9_method_15_code (5 : Nat) (Option.some (Jvm.ClassFile.FieldType.object "TradeLink$Message"))) ∈ x_Ts := x_wi 256 (by decide +kernel) rfl
theorem w257 : (Jvm.Cond.methodLink "TradeLink$Session" (165 : Nat) ({ cls := "TradeLink$Outbox", name := "open", desc := "()LTradeLink$Message;" } : Jvm.MethodName)) ∈ x_Ts := x_wi 257 (by decide +kernel) rfl
theorem w258 : (Jvm.Cond.instanceMethod ({ cls := "TradeLink$Outbox", name := "open", desc := "()LTradeLink$Message;" } : Jvm.MethodName)) ∈ x_Ts := x_wi 258 (by decide +kernel) rfl
theorem w259 : (Jvm.Cond.selects "TradeLink$Outbox" ({ cls := "TradeLink$Outbox", name := "open", desc := "()LTradeLink$Message;" } : Jvm.MethodName) ({ cls := "TradeLink$Outbox", name := "open", desc := "()LTradeLink$Message;" } : Jvm.MethodName)) ∈ x_Ts := x_wi 259 (by decide +kernel) rfl
theorem w260 : (Jvm.Cond.code ({ cls := "TradeLink$Outbox", name := "open", desc := "()LTradeLink$Message;" } : Jvm.MethodName) prog_7_method_3_code (2 : Nat) (Option.some (Jvm.ClassFile.FieldType.object "TradeLink$Message"))) ∈ x_Ts := x_wi 260 (by decide +kernel) rfl
theorem w261 : (Jvm.Cond.methodLink "TradeLink$Session" (169 : Nat) ({ cls := "TradeLink$Message", name := "begin", desc := "(IIZ)V" } : Jvm.MethodName)) ∈ x_Ts := x_wi 261 (by decide +kernel) rfl
theorem w262 : (Jvm.Cond.instanceMethod ({ cls := "TradeLink$Message", name := "begin", desc := "(IIZ)V" } : Jvm.MethodName)) ∈ x_Ts := x_wi 262 (by decide +kernel) rfl
theorem w263 : (Jvm.Cond.selects "TradeLink$Message" ({ cls := "TradeLink$Message", name := "begin", desc := "(IIZ)V" } : Jvm.MethodName) ({ cls := "TradeLink$Message", name := "begin", desc := "(IIZ)V" } : Jvm.MethodName)) ∈ x_Ts := x_wi 263 (by decide +kernel) rfl
theorem w264 : (Jvm.Cond.code ({ cls := "TradeLink$Message", name := "begin", desc := "(IIZ)V" } : Jvm.MethodName) prog_5_method_2_code (4 : Nat) (Option.none : Option Jvm.ClassFile.FieldType)) ∈ x_Ts := x_wi 264 (by decide +kernel) rfl
theorem w265 : (Jvm.Cond.methodLink "TradeLink$Session" (123 : Nat) ({ cls := "TradeLink$Message", name := "say", desc := "(IIII)V" } : Jvm.MethodName)) ∈ x_Ts := x_wi 265 (by decide +kernel) rfl
theorem w266 : (Jvm.Cond.instanceMethod ({ cls := "TradeLink$Message", name := "say", desc := "(IIII)V" } : Jvm.MethodName)) ∈ x_Ts := x_wi 266 (by decide +kernel) rfl
theorem w267 : (Jvm.Cond.selects "TradeLink$Message" ({ cls := "TradeLink$Message", name := "say", desc := "(IIII)V" } : Jvm.MethodName) ({ cls := "TradeLink$Message", name := "say", desc := "(IIII)V" } : Jvm.MethodName)) ∈ x_Ts := x_wi 267 (by decide +kernel) rfl
theorem w268 : (Jvm.Cond.code ({ cls := "TradeLink$Message", name := "say", desc := "(IIII)V" } : Jvm.MethodName) prog_5_method_3_code (5 : Nat) (Option.none : Option Jvm.ClassFile.FieldType)) ∈ x_Ts := x_wi 268 (by decide +kernel) rfl
theorem w269 : (Jvm.Cond.methodLink "TradeLink$Session" (148 : Nat) ({ cls := "TradeLink$Session", name := "leave", desc := "()V" } : Jvm.MethodName)) ∈ x_Ts := x_wi 269 (by decide +kernel) rfl
theorem w270 : (Jvm.Cond.instanceMethod ({ cls := "TradeLink$Session", name := "leave", desc := "()V" } : Jvm.MethodName)) ∈ x_Ts := x_wi 270 (by decide +kernel) rfl
theorem w271 : (Jvm.Cond.selects "TradeLink$Session" ({ cls := "TradeLink$Session", name := "leave", desc := "()V" } : Jvm.MethodName) ({ cls := "TradeLink$Session", name := "leave", desc := "()V" } : Jvm.MethodName)) ∈ x_Ts := x_wi 271 (by decide +kernel) rfl
theorem w272 : (Jvm.Cond.code ({ cls := "TradeLink$Session", name := "leave", desc := "()V" } : Jvm.MethodName) prog_9_method_4_code (1 : Nat) (Option.none : Option Jvm.ClassFile.FieldType)) ∈ x_Ts := x_wi 272 (by decide +kernel) rfl
theorem w273 : (Jvm.Cond.methodLink "TradeLink$Session" (97 : Nat) ({ cls := "TradeLink$Session", name := "ask", desc := "()V" } : Jvm.MethodName)) ∈ x_Ts := x_wi 273 (by decide +kernel) rfl
theorem w275 : (Jvm.Cond.instanceMethod ({ cls := "TradeLink$Session", name := "ask", desc := "()V" } : Jvm.MethodName)) ∈ x_Ts := x_wi 275 (by decide +kernel) rfl
theorem w276 : (Jvm.Cond.code ({ cls := "TradeLink$Session", name := "ask", desc := "()V" } : Jvm.MethodName) prog_9_method_10_code (1 : Nat) (Option.none : Option Jvm.ClassFile.FieldType)) ∈ x_Ts := x_wi 276 (by decide +kernel) rfl
theorem w277 : (Jvm.Cond.methodLink "TradeLinkLaw" (77 : Nat) ({ cls := "TradeLink", name := "restart", desc := "()Z" } : Jvm.MethodName)) ∈ x_Ts := x_wi 277 (by decide +kernel) rfl
theorem w278 : (Jvm.Cond.instanceMethod ({ cls := "TradeLink", name := "restart", desc := "()Z" } : Jvm.MethodName)) ∈ x_Ts := x_wi 278 (by decide +kernel) rfl
theorem w279 : (Jvm.Cond.selects "TradeLink" ({ cls := "TradeLink", name := "restart", desc := "()Z" } : Jvm.MethodName) ({ cls := "TradeLink", name := "restart", desc := "()Z" } : Jvm.MethodName)) ∈ x_Ts := x_wi 279 (by decide +kernel) rfl
theorem w280 : (Jvm.Cond.code ({ cls := "TradeLink", name := "restart", desc := "()Z" } : Jvm.MethodName) prog_1_method_7_code (2 : Nat) (Option.some Jvm.ClassFile.FieldType.boolean)) ∈ x_Ts := x_wi 280 (by decide +kernel) rfl
theorem w281 : (Jvm.Cond.methodLink "TradeLink" (117 : Nat) ({ cls := "TradeLink$Session", name := "leave", desc := "()V" } : Jvm.MethodName)) ∈ x_Ts := x_wi 281 (by decide +kernel) rfl
theorem w282 : (Jvm.Cond.methodLink "TradeLinkLaw" (85 : Nat) ({ cls := "TradeLink", name := "frames", desc := "()I" } : Jvm.MethodName)) ∈ x_Ts := x_wi 282 (by decide +kernel) rfl
theorem w283 : (Jvm.Cond.instanceMethod ({ cls := "TradeLink", name := "frames", desc := "()I" } : Jvm.MethodName)) ∈ x_Ts := x_wi 283 (by decide +kernel) rfl
theorem w284 : (Jvm.Cond.selects "TradeLink" ({ cls := "TradeLink", name := "frames", desc := "()I" } : Jvm.MethodName) ({ cls := "TradeLink", name := "frames", desc := "()I" } : Jvm.MethodName)) ∈ x_Ts := x_wi 284 (by decide +kernel) rfl
theorem w285 : (Jvm.Cond.code ({ cls := "TradeLink", name := "frames", desc := "()I" } : Jvm.MethodName) prog_1_method_9_code (1 : Nat) (Option.some Jvm.ClassFile.FieldType.int)) ∈ x_Ts := x_wi 285 (by decide +kernel) rfl
theorem w286 : (Jvm.Cond.methodLink "TradeLinkLaw" (52 : Nat) ({ cls := "TradeLinkLaw", name := "give", desc := "(LTradeLink;IIZIII[J)I" } : Jvm.MethodName)) ∈ x_Ts := x_wi 286 (by decide +kernel) rfl
theorem w287 : (Jvm.Cond.static ({ cls := "TradeLinkLaw", name := "give", desc := "(LTradeLink;IIZIII[J)I" } : Jvm.MethodName)) ∈ x_Ts := x_wi 287 (by decide +kernel) rfl
theorem w288 : (Jvm.Cond.codeWith ({ cls := "TradeLinkLaw", name := "give", desc := "(LTradeLink;IIZIII[J)I" } : Jvm.MethodName) method_3_code (9 : Nat) (Option.some Jvm.ClassFile.FieldType.int) [((0 : Nat), (18 : Nat), (21 : Nat), (13 : Nat))]) ∈ x_Ts := x_wi 288 (by decide +kernel) rfl
theorem w289 : (Jvm.Cond.classLink "TradeLinkLaw" (13 : Nat) "java/lang/IllegalArgumentException") ∈ x_Ts := x_wi 289 (by decide +kernel) rfl
theorem w290 : (Jvm.Cond.methodLink "TradeLinkLaw" (7 : Nat) ({ cls := "TradeLink", name := "give", desc := "(IIZIII)I" } : Jvm.MethodName)) ∈ x_Ts := x_wi 290 (by decide +kernel) rfl
theorem w291 : (Jvm.Cond.instanceMethod ({ cls := "TradeLink", name := "give", desc := "(IIZIII)I" } : Jvm.MethodName)) ∈ x_Ts := x_wi 291 (by decide +kernel) rfl
theorem w292 : (Jvm.Cond.selects "TradeLink" ({ cls := "TradeLink", name := "give", desc := "(IIZIII)I" } : Jvm.MethodName) ({ cls := "TradeLink", name := "give", desc := "(IIZIII)I" } : Jvm.MethodName)) ∈ x_Ts := x_wi 292 (by decide +kernel) rfl
theorem w293 : (Jvm.Cond.code ({ cls := "TradeLink", name := "give", desc := "(IIZIII)I" } : Jvm.MethodName) prog_1_method_2_code (7 : Nat) (Option.some Jvm.ClassFile.FieldType.int)) ∈ x_Ts := x_wi 293 (by decide +kernel) rfl
theorem w294 : (Jvm.Cond.methodLink "TradeLink" (30 : Nat) ({ cls := "TradeLink$Layout", name := "isPeerType", desc := "(I)Z" } : Jvm.MethodName)) ∈ x_Ts := x_wi 294 (by decide +kernel) rfl
theorem w295 : (Jvm.Cond.static ({ cls := "TradeLink$Layout", name := "isPeerType", desc := "(I)Z" } : Jvm.MethodName)) ∈ x_Ts := x_wi 295 (by decide +kernel) rfl
theorem w296 : (Jvm.Cond.code ({ cls := "TradeLink$Layout", name := "isPeerType", desc := "(I)Z" } : Jvm.MethodName) prog_4_method_2_code (1 : Nat) (Option.some Jvm.ClassFile.FieldType.boolean)) ∈ x_Ts := x_wi 296 (by decide +kernel) rfl
theorem w297 : (Jvm.Cond.methodLink "TradeLink$Layout" (11 : Nat) ({ cls := "TradeLink$Layout", name := "rowOf", desc := "(I)I" } : Jvm.MethodName)) ∈ x_Ts := x_wi 297 (by decide +kernel) rfl
theorem w298 : (Jvm.Cond.static ({ cls := "TradeLink$Layout", name := "rowOf", desc := "(I)I" } : Jvm.MethodName)) ∈ x_Ts := x_wi 298 (by decide +kernel) rfl
theorem w299 : (Jvm.Cond.code ({ cls := "TradeLink$Layout", name := "rowOf", desc := "(I)I" } : Jvm.MethodName) prog_4_method_5_code (2 : Nat) (Option.some Jvm.ClassFile.FieldType.int)) ∈ x_Ts := x_wi 299 (by decide +kernel) rfl
theorem w300 : (Jvm.Cond.fieldLink "TradeLink$Layout" (15 : Nat) "TradeLink$Layout" "ROWS" "[I") ∈ x_Ts := x_wi 300 (by decide +kernel) rfl
theorem w302 : (Jvm.Cond.methodLink "TradeLink" (36 : Nat) ({ cls := "TradeLink", name := "isNumber", desc := "(I)Z" } : Jvm.MethodName)) ∈ x_Ts := x_wi 302 (by decide +kernel) rfl
theorem w303 : (Jvm.Cond.static ({ cls := "TradeLink", name := "isNumber", desc := "(I)Z" } : Jvm.MethodName)) ∈ x_Ts := x_wi 303 (by decide +kernel) rfl
theorem w304 : (Jvm.Cond.code ({ cls := "TradeLink", name := "isNumber", desc := "(I)Z" } : Jvm.MethodName) prog_1_method_14_code (1 : Nat) (Option.some Jvm.ClassFile.FieldType.boolean)) ∈ x_Ts := x_wi 304 (by decide +kernel) rfl
theorem w305 : (Jvm.Cond.constant "TradeLink" (181 : Nat) (999999 : Int32)) ∈ x_Ts := x_wi 305 (by decide +kernel) rfl
theorem w306 : (Jvm.Cond.classLink "TradeLink" (39 : Nat) "java/lang/IllegalArgumentException") ∈ x_Ts := x_wi 306 (by decide +kernel) rfl
theorem w307 : (Jvm.Cond.instantiable "java/lang/IllegalArgumentException" (6 : Nat)) ∈ x_Ts := x_wi 307 (by decide +kernel) rfl
theorem w308 : (Jvm.Cond.castable "java/lang/IllegalArgumentException" "java/lang/IllegalArgumentException") ∈ x_Ts := x_wi 308 (by decide +kernel) rfl
theorem w315 : (Jvm.Cond.selects "java/lang/IllegalArgumentException" ({ cls := "java/lang/Throwable", name := "fillInStackTrace", desc := "(I)Ljava/lang/Throwable;" } : Jvm.MethodName) ({ cls := "java/lang/Throwable", name := "fillInStackTrace", desc := "(I)Ljava/lang/Throwable;" } : Jvm.MethodName)) ∈ x_Ts := x_wi 315 (by decide +kernel) rfl
theorem w316 : (Jvm.Cond.selects "java/lang/IllegalArgumentException" ({ cls := "java/lang/Throwable", name := "fillInStackTrace", desc := "()Ljava/lang/Throwable;" } : Jvm.MethodName) ({ cls := "java/lang/Throwable", name := "fillInStackTrace", desc := "()Ljava/lang/Throwable;" } : Jvm.MethodName)) ∈ x_Ts := x_wi 316 (by decide +kernel) rfl
theorem w327 : (Jvm.Cond.fieldLink "java/lang/Throwable" (198 : Nat) "java/lang/Throwable" "backtrace" "Ljava/lang/Object;") ∈ x_Ts := x_wi 327 (by decide +kernel) rfl
theorem w329 : (Jvm.Cond.instanceMethod ({ cls := "java/lang/Throwable", name := "<init>", desc := "()V" } : Jvm.MethodName)) ∈ x_Ts := x_wi 329 (by decide +kernel) rfl
theorem w330 : (Jvm.Cond.code ({ cls := "java/lang/Throwable", name := "<init>", desc := "()V" } : Jvm.MethodName) prog_19_method_1_code (1 : Nat) (Option.none : Option Jvm.ClassFile.FieldType)) ∈ x_Ts := x_wi 330 (by decide +kernel) rfl
theorem w331 : (Jvm.Cond.methodLink "java/lang/Throwable" (1 : Nat) ({ cls := "java/lang/Object", name := "<init>", desc := "()V" } : Jvm.MethodName)) ∈ x_Ts := x_wi 331 (by decide +kernel) rfl
theorem w332 : (Jvm.Cond.fieldLink "java/lang/Throwable" (13 : Nat) "java/lang/Throwable" "UNASSIGNED_STACK" "[Ljava/lang/StackTraceElement;") ∈ x_Ts := x_wi 332 (by decide +kernel) rfl
theorem w334 : (Jvm.Cond.fieldLink "java/lang/Throwable" (20 : Nat) "java/lang/Throwable" "SUPPRESSED_SENTINEL" "Ljava/util/List;") ∈ x_Ts := x_wi 334 (by decide +kernel) rfl
theorem w336 : (Jvm.Cond.methodLink "java/lang/Throwable" (27 : Nat) ({ cls := "java/lang/Throwable", name := "fillInStackTrace", desc := "()Ljava/lang/Throwable;" } : Jvm.MethodName)) ∈ x_Ts := x_wi 336 (by decide +kernel) rfl
theorem w337 : (Jvm.Cond.instanceMethod ({ cls := "java/lang/Throwable", name := "fillInStackTrace", desc := "()Ljava/lang/Throwable;" } : Jvm.MethodName)) ∈ x_Ts := x_wi 337 (by decide +kernel) rfl
theorem w339 : (Jvm.Cond.selects "java/lang/IllegalStateException" ({ cls := "java/lang/Throwable", name := "fillInStackTrace", desc := "()Ljava/lang/Throwable;" } : Jvm.MethodName) ({ cls := "java/lang/Throwable", name := "fillInStackTrace", desc := "()Ljava/lang/Throwable;" } : Jvm.MethodName)) ∈ x_Ts := x_wi 339 (by decide +kernel) rfl
theorem w340 : (Jvm.Cond.selects "java/lang/IndexOutOfBoundsException" ({ cls := "java/lang/Throwable", name := "fillInStackTrace", desc := "()Ljava/lang/Throwable;" } : Jvm.MethodName) ({ cls := "java/lang/Throwable", name := "fillInStackTrace", desc := "()Ljava/lang/Throwable;" } : Jvm.MethodName)) ∈ x_Ts := x_wi 340 (by decide +kernel) rfl
theorem w341 : (Jvm.Cond.selects "java/util/NoSuchElementException" ({ cls := "java/lang/Throwable", name := "fillInStackTrace", desc := "()Ljava/lang/Throwable;" } : Jvm.MethodName) ({ cls := "java/lang/Throwable", name := "fillInStackTrace", desc := "()Ljava/lang/Throwable;" } : Jvm.MethodName)) ∈ x_Ts := x_wi 341 (by decide +kernel) rfl
theorem w343 : (Jvm.Cond.methodLink "java/lang/Throwable" (202 : Nat) ({ cls := "java/lang/Throwable", name := "fillInStackTrace", desc := "(I)Ljava/lang/Throwable;" } : Jvm.MethodName)) ∈ x_Ts := x_wi 343 (by decide +kernel) rfl
theorem w345 : (Jvm.Cond.instanceMethod ({ cls := "java/lang/Throwable", name := "fillInStackTrace", desc := "(I)Ljava/lang/Throwable;" } : Jvm.MethodName)) ∈ x_Ts := x_wi 345 (by decide +kernel) rfl
theorem w346 : (Jvm.Cond.instantiable "java/lang/Throwable" (6 : Nat)) ∈ x_Ts := x_wi 346 (by decide +kernel) rfl
theorem w348 : (Jvm.Cond.methodLink "TradeLink" (41 : Nat) ({ cls := "java/lang/IllegalArgumentException", name := "<init>", desc := "()V" } : Jvm.MethodName)) ∈ x_Ts := x_wi 348 (by decide +kernel) rfl
theorem w349 : (Jvm.Cond.instanceMethod ({ cls := "java/lang/IllegalArgumentException", name := "<init>", desc := "()V" } : Jvm.MethodName)) ∈ x_Ts := x_wi 349 (by decide +kernel) rfl
theorem w350 : (Jvm.Cond.code ({ cls := "java/lang/IllegalArgumentException", name := "<init>", desc := "()V" } : Jvm.MethodName) prog_14_method_1_code (1 : Nat) (Option.none : Option Jvm.ClassFile.FieldType)) ∈ x_Ts := x_wi 350 (by decide +kernel) rfl
theorem w351 : (Jvm.Cond.methodLink "java/lang/IllegalArgumentException" (1 : Nat) ({ cls := "java/lang/RuntimeException", name := "<init>", desc := "()V" } : Jvm.MethodName)) ∈ x_Ts := x_wi 351 (by decide +kernel) rfl
theorem w352 : (Jvm.Cond.instanceMethod ({ cls := "java/lang/RuntimeException", name := "<init>", desc := "()V" } : Jvm.MethodName)) ∈ x_Ts := x_wi 352 (by decide +kernel) rfl
theorem w353 : (Jvm.Cond.code ({ cls := "java/lang/RuntimeException", name := "<init>", desc := "()V" } : Jvm.MethodName) prog_18_method_1_code (1 : Nat) (Option.none : Option Jvm.ClassFile.FieldType)) ∈ x_Ts := x_wi 353 (by decide +kernel) rfl
theorem w354 : (Jvm.Cond.methodLink "java/lang/RuntimeException" (1 : Nat) ({ cls := "java/lang/Exception", name := "<init>", desc := "()V" } : Jvm.MethodName)) ∈ x_Ts := x_wi 354 (by decide +kernel) rfl
theorem w355 : (Jvm.Cond.instanceMethod ({ cls := "java/lang/Exception", name := "<init>", desc := "()V" } : Jvm.MethodName)) ∈ x_Ts := x_wi 355 (by decide +kernel) rfl
theorem w356 : (Jvm.Cond.code ({ cls := "java/lang/Exception", name := "<init>", desc := "()V" } : Jvm.MethodName) prog_13_method_1_code (1 : Nat) (Option.none : Option Jvm.ClassFile.FieldType)) ∈ x_Ts := x_wi 356 (by decide +kernel) rfl
theorem w357 : (Jvm.Cond.methodLink "java/lang/Exception" (1 : Nat) ({ cls := "java/lang/Throwable", name := "<init>", desc := "()V" } : Jvm.MethodName)) ∈ x_Ts := x_wi 357 (by decide +kernel) rfl
theorem w359 : (Jvm.Cond.fieldLink "java/lang/Throwable" (7 : Nat) "java/lang/Throwable" "cause" "Ljava/lang/Throwable;") ∈ x_Ts := x_wi 359 (by decide +kernel) rfl
theorem w360 : (Jvm.Cond.fieldLink "java/lang/Throwable" (17 : Nat) "java/lang/Throwable" "stackTrace" "[Ljava/lang/StackTraceElement;") ∈ x_Ts := x_wi 360 (by decide +kernel) rfl
theorem w361 : (Jvm.Cond.fieldLink "java/lang/Throwable" (24 : Nat) "java/lang/Throwable" "suppressedExceptions" "Ljava/util/List;") ∈ x_Ts := x_wi 361 (by decide +kernel) rfl
theorem w370 : (Jvm.Cond.methodLink "TradeLink" (51 : Nat) ({ cls := "TradeLink$Message", name := "begin", desc := "(IIZ)V" } : Jvm.MethodName)) ∈ x_Ts := x_wi 370 (by decide +kernel) rfl
theorem w371 : (Jvm.Cond.methodLink "TradeLink" (55 : Nat) ({ cls := "TradeLink$Message", name := "say", desc := "(IIII)V" } : Jvm.MethodName)) ∈ x_Ts := x_wi 371 (by decide +kernel) rfl
theorem w372 : (Jvm.Cond.methodLink "TradeLink" (63 : Nat) ({ cls := "TradeLink$Message", name := "writeTo", desc := "(LTradeLink$Row;)V" } : Jvm.MethodName)) ∈ x_Ts := x_wi 372 (by decide +kernel) rfl
theorem w373 : (Jvm.Cond.instanceMethod ({ cls := "TradeLink$Message", name := "writeTo", desc := "(LTradeLink$Row;)V" } : Jvm.MethodName)) ∈ x_Ts := x_wi 373 (by decide +kernel) rfl
theorem w374 : (Jvm.Cond.selects "TradeLink$Message" ({ cls := "TradeLink$Message", name := "writeTo", desc := "(LTradeLink$Row;)V" } : Jvm.MethodName) ({ cls := "TradeLink$Message", name := "writeTo", desc := "(LTradeLink$Row;)V" } : Jvm.MethodName)) ∈ x_Ts := x_wi 374 (by decide +kernel) rfl
theorem w375 : (Jvm.Cond.code ({ cls := "TradeLink$Message", name := "writeTo", desc := "(LTradeLink$Row;)V" } : Jvm.MethodName) prog_5_method_5_code (4 : Nat) (Option.none : Option Jvm.ClassFile.FieldType)) ∈ x_Ts := x_wi 375 (by decide +kernel) rfl
theorem w376 : (Jvm.Cond.methodLink "TradeLink$Message" (28 : Nat) ({ cls := "TradeLink$Row", name := "clear", desc := "()V" } : Jvm.MethodName)) ∈ x_Ts := x_wi 376 (by decide +kernel) rfl
theorem w377 : (Jvm.Cond.instanceMethod ({ cls := "TradeLink$Row", name := "clear", desc := "()V" } : Jvm.MethodName)) ∈ x_Ts := x_wi 377 (by decide +kernel) rfl
theorem w378 : (Jvm.Cond.selects "TradeLink$Row" ({ cls := "TradeLink$Row", name := "clear", desc := "()V" } : Jvm.MethodName) ({ cls := "TradeLink$Row", name := "clear", desc := "()V" } : Jvm.MethodName)) ∈ x_Ts := x_wi 378 (by decide +kernel) rfl
theorem w379 : (Jvm.Cond.code ({ cls := "TradeLink$Row", name := "clear", desc := "()V" } : Jvm.MethodName) prog_8_method_2_code (1 : Nat) (Option.none : Option Jvm.ClassFile.FieldType)) ∈ x_Ts := x_wi 379 (by decide +kernel) rfl
theorem w380 : (Jvm.Cond.methodLink "TradeLink$Message" (33 : Nat) ({ cls := "TradeLink$Row", name := "appendCharacterField", desc := "(II)V" } : Jvm.MethodName)) ∈ x_Ts := x_wi 380 (by decide +kernel) rfl
theorem w381 : (Jvm.Cond.instanceMethod ({ cls := "TradeLink$Row", name := "appendCharacterField", desc := "(II)V" } : Jvm.MethodName)) ∈ x_Ts := x_wi 381 (by decide +kernel) rfl
theorem w382 : (Jvm.Cond.selects "TradeLink$Row" ({ cls := "TradeLink$Row", name := "appendCharacterField", desc := "(II)V" } : Jvm.MethodName) ({ cls := "TradeLink$Row", name := "appendCharacterField", desc := "(II)V" } : Jvm.MethodName)) ∈ x_Ts := x_wi 382 (by decide +kernel) rfl
theorem w383 : (Jvm.Cond.code ({ cls := "TradeLink$Row", name := "appendCharacterField", desc := "(II)V" } : Jvm.MethodName) prog_8_method_10_code (3 : Nat) (Option.none : Option Jvm.ClassFile.FieldType)) ∈ x_Ts := x_wi 383 (by decide +kernel) rfl
theorem w384 : (Jvm.Cond.methodLink "TradeLink$Row" (28 : Nat) ({ cls := "TradeLink$Row", name := "appendNumber", desc := "(I)V" } : Jvm.MethodName)) ∈ x_Ts := x_wi 384 (by decide +kernel) rfl
theorem w385 : (Jvm.Cond.instanceMethod ({ cls := "TradeLink$Row", name := "appendNumber", desc := "(I)V" } : Jvm.MethodName)) ∈ x_Ts := x_wi 385 (by decide +kernel) rfl
theorem w386 : (Jvm.Cond.selects "TradeLink$Row" ({ cls := "TradeLink$Row", name := "appendNumber", desc := "(I)V" } : Jvm.MethodName) ({ cls := "TradeLink$Row", name := "appendNumber", desc := "(I)V" } : Jvm.MethodName)) ∈ x_Ts := x_wi 386 (by decide +kernel) rfl
theorem w387 : (Jvm.Cond.code ({ cls := "TradeLink$Row", name := "appendNumber", desc := "(I)V" } : Jvm.MethodName) prog_8_method_8_code (5 : Nat) (Option.none : Option Jvm.ClassFile.FieldType)) ∈ x_Ts := x_wi 387 (by decide +kernel) rfl
theorem w388 : (Jvm.Cond.constant "TradeLink$Row" (23 : Nat) (100000 : Int32)) ∈ x_Ts := x_wi 388 (by decide +kernel) rfl
theorem w389 : (Jvm.Cond.methodLink "TradeLink$Row" (24 : Nat) ({ cls := "TradeLink$Row", name := "append", desc := "(I)V" } : Jvm.MethodName)) ∈ x_Ts := x_wi 389 (by decide +kernel) rfl
theorem w390 : (Jvm.Cond.instanceMethod ({ cls := "TradeLink$Row", name := "append", desc := "(I)V" } : Jvm.MethodName)) ∈ x_Ts := x_wi 390 (by decide +kernel) rfl
theorem w391 : (Jvm.Cond.selects "TradeLink$Row" ({ cls := "TradeLink$Row", name := "append", desc := "(I)V" } : Jvm.MethodName) ({ cls := "TradeLink$Row", name := "append", desc := "(I)V" } : Jvm.MethodName)) ∈ x_Ts := x_wi 391 (by decide +kernel) rfl
theorem w392 : (Jvm.Cond.code ({ cls := "TradeLink$Row", name := "append", desc := "(I)V" } : Jvm.MethodName) prog_8_method_7_code (2 : Nat) (Option.none : Option Jvm.ClassFile.FieldType)) ∈ x_Ts := x_wi 392 (by decide +kernel) rfl
theorem w393 : (Jvm.Cond.methodLink "TradeLink$Message" (37 : Nat) ({ cls := "TradeLink$Row", name := "appendNumberField", desc := "(II)V" } : Jvm.MethodName)) ∈ x_Ts := x_wi 393 (by decide +kernel) rfl
theorem w394 : (Jvm.Cond.instanceMethod ({ cls := "TradeLink$Row", name := "appendNumberField", desc := "(II)V" } : Jvm.MethodName)) ∈ x_Ts := x_wi 394 (by decide +kernel) rfl
theorem w395 : (Jvm.Cond.selects "TradeLink$Row" ({ cls := "TradeLink$Row", name := "appendNumberField", desc := "(II)V" } : Jvm.MethodName) ({ cls := "TradeLink$Row", name := "appendNumberField", desc := "(II)V" } : Jvm.MethodName)) ∈ x_Ts := x_wi 395 (by decide +kernel) rfl
theorem w396 : (Jvm.Cond.code ({ cls := "TradeLink$Row", name := "appendNumberField", desc := "(II)V" } : Jvm.MethodName) prog_8_method_9_code (3 : Nat) (Option.none : Option Jvm.ClassFile.FieldType)) ∈ x_Ts := x_wi 396 (by decide +kernel) rfl
theorem w397 : (Jvm.Cond.methodLink "TradeLink$Message" (43 : Nat) ({ cls := "TradeLink$Message", name := "writeOwnFields", desc := "(LTradeLink$Row;)V" } : Jvm.MethodName)) ∈ x_Ts := x_wi 397 (by decide +kernel) rfl
theorem w399 : (Jvm.Cond.instanceMethod ({ cls := "TradeLink$Message", name := "writeOwnFields", desc := "(LTradeLink$Row;)V" } : Jvm.MethodName)) ∈ x_Ts := x_wi 399 (by decide +kernel) rfl
theorem w400 : (Jvm.Cond.code ({ cls := "TradeLink$Message", name := "writeOwnFields", desc := "(LTradeLink$Row;)V" } : Jvm.MethodName) prog_5_method_6_code (5 : Nat) (Option.none : Option Jvm.ClassFile.FieldType)) ∈ x_Ts := x_wi 400 (by decide +kernel) rfl
theorem w401 : (Jvm.Cond.methodLink "TradeLink$Message" (53 : Nat) ({ cls := "TradeLink$Layout", name := "fieldCount", desc := "(I)I" } : Jvm.MethodName)) ∈ x_Ts := x_wi 401 (by decide +kernel) rfl
theorem w402 : (Jvm.Cond.static ({ cls := "TradeLink$Layout", name := "fieldCount", desc := "(I)I" } : Jvm.MethodName)) ∈ x_Ts := x_wi 402 (by decide +kernel) rfl
theorem w403 : (Jvm.Cond.code ({ cls := "TradeLink$Layout", name := "fieldCount", desc := "(I)I" } : Jvm.MethodName) prog_4_method_3_code (2 : Nat) (Option.some Jvm.ClassFile.FieldType.int)) ∈ x_Ts := x_wi 403 (by decide +kernel) rfl
theorem w404 : (Jvm.Cond.methodLink "TradeLink$Message" (57 : Nat) ({ cls := "TradeLink$Layout", name := "tag", desc := "(II)I" } : Jvm.MethodName)) ∈ x_Ts := x_wi 404 (by decide +kernel) rfl
theorem w405 : (Jvm.Cond.static ({ cls := "TradeLink$Layout", name := "tag", desc := "(II)I" } : Jvm.MethodName)) ∈ x_Ts := x_wi 405 (by decide +kernel) rfl
theorem w406 : (Jvm.Cond.code ({ cls := "TradeLink$Layout", name := "tag", desc := "(II)I" } : Jvm.MethodName) prog_4_method_4_code (3 : Nat) (Option.some Jvm.ClassFile.FieldType.int)) ∈ x_Ts := x_wi 406 (by decide +kernel) rfl
theorem w407 : (Jvm.Cond.methodLink "TradeLink$Message" (61 : Nat) ({ cls := "TradeLink$Message", name := "isFill", desc := "()Z" } : Jvm.MethodName)) ∈ x_Ts := x_wi 407 (by decide +kernel) rfl
theorem w408 : (Jvm.Cond.instanceMethod ({ cls := "TradeLink$Message", name := "isFill", desc := "()Z" } : Jvm.MethodName)) ∈ x_Ts := x_wi 408 (by decide +kernel) rfl
theorem w409 : (Jvm.Cond.selects "TradeLink$Message" ({ cls := "TradeLink$Message", name := "isFill", desc := "()Z" } : Jvm.MethodName) ({ cls := "TradeLink$Message", name := "isFill", desc := "()Z" } : Jvm.MethodName)) ∈ x_Ts := x_wi 409 (by decide +kernel) rfl
theorem w410 : (Jvm.Cond.code ({ cls := "TradeLink$Message", name := "isFill", desc := "()Z" } : Jvm.MethodName) prog_5_method_4_code (1 : Nat) (Option.some Jvm.ClassFile.FieldType.boolean)) ∈ x_Ts := x_wi 410 (by decide +kernel) rfl
theorem w411 : (Jvm.Cond.methodLink "TradeLink$Message" (47 : Nat) ({ cls := "TradeLink$Row", name := "set", desc := "(II)V" } : Jvm.MethodName)) ∈ x_Ts := x_wi 411 (by decide +kernel) rfl
theorem w412 : (Jvm.Cond.instanceMethod ({ cls := "TradeLink$Row", name := "set", desc := "(II)V" } : Jvm.MethodName)) ∈ x_Ts := x_wi 412 (by decide +kernel) rfl
theorem w413 : (Jvm.Cond.selects "TradeLink$Row" ({ cls := "TradeLink$Row", name := "set", desc := "(II)V" } : Jvm.MethodName) ({ cls := "TradeLink$Row", name := "set", desc := "(II)V" } : Jvm.MethodName)) ∈ x_Ts := x_wi 413 (by decide +kernel) rfl
theorem w414 : (Jvm.Cond.code ({ cls := "TradeLink$Row", name := "set", desc := "(II)V" } : Jvm.MethodName) prog_8_method_6_code (3 : Nat) (Option.none : Option Jvm.ClassFile.FieldType)) ∈ x_Ts := x_wi 414 (by decide +kernel) rfl
theorem w415 : (Jvm.Cond.methodLink "TradeLink$Row" (19 : Nat) ({ cls := "TradeLink$Row", name := "has", desc := "(I)Z" } : Jvm.MethodName)) ∈ x_Ts := x_wi 415 (by decide +kernel) rfl
theorem w416 : (Jvm.Cond.instanceMethod ({ cls := "TradeLink$Row", name := "has", desc := "(I)Z" } : Jvm.MethodName)) ∈ x_Ts := x_wi 416 (by decide +kernel) rfl
theorem w417 : (Jvm.Cond.selects "TradeLink$Row" ({ cls := "TradeLink$Row", name := "has", desc := "(I)Z" } : Jvm.MethodName) ({ cls := "TradeLink$Row", name := "has", desc := "(I)Z" } : Jvm.MethodName)) ∈ x_Ts := x_wi 417 (by decide +kernel) rfl
theorem w418 : (Jvm.Cond.code ({ cls := "TradeLink$Row", name := "has", desc := "(I)Z" } : Jvm.MethodName) prog_8_method_4_code (2 : Nat) (Option.some Jvm.ClassFile.FieldType.boolean)) ∈ x_Ts := x_wi 418 (by decide +kernel) rfl
theorem w419 : (Jvm.Cond.methodLink "TradeLink$Message" (50 : Nat) ({ cls := "TradeLink$Row", name := "appendSumField", desc := "()V" } : Jvm.MethodName)) ∈ x_Ts := x_wi 419 (by decide +kernel) rfl
theorem w420 : (Jvm.Cond.instanceMethod ({ cls := "TradeLink$Row", name := "appendSumField", desc := "()V" } : Jvm.MethodName)) ∈ x_Ts := x_wi 420 (by decide +kernel) rfl
theorem w421 : (Jvm.Cond.selects "TradeLink$Row" ({ cls := "TradeLink$Row", name := "appendSumField", desc := "()V" } : Jvm.MethodName) ({ cls := "TradeLink$Row", name := "appendSumField", desc := "()V" } : Jvm.MethodName)) ∈ x_Ts := x_wi 421 (by decide +kernel) rfl
theorem w422 : (Jvm.Cond.code ({ cls := "TradeLink$Row", name := "appendSumField", desc := "()V" } : Jvm.MethodName) prog_8_method_11_code (2 : Nat) (Option.none : Option Jvm.ClassFile.FieldType)) ∈ x_Ts := x_wi 422 (by decide +kernel) rfl
theorem w423 : (Jvm.Cond.methodLink "TradeLink$Row" (31 : Nat) ({ cls := "TradeLink$Row", name := "sumBefore", desc := "(I)I" } : Jvm.MethodName)) ∈ x_Ts := x_wi 423 (by decide +kernel) rfl
theorem w424 : (Jvm.Cond.instanceMethod ({ cls := "TradeLink$Row", name := "sumBefore", desc := "(I)I" } : Jvm.MethodName)) ∈ x_Ts := x_wi 424 (by decide +kernel) rfl
theorem w425 : (Jvm.Cond.selects "TradeLink$Row" ({ cls := "TradeLink$Row", name := "sumBefore", desc := "(I)I" } : Jvm.MethodName) ({ cls := "TradeLink$Row", name := "sumBefore", desc := "(I)I" } : Jvm.MethodName)) ∈ x_Ts := x_wi 425 (by decide +kernel) rfl
theorem w426 : (Jvm.Cond.code ({ cls := "TradeLink$Row", name := "sumBefore", desc := "(I)I" } : Jvm.MethodName) prog_8_method_12_code (4 : Nat) (Option.some Jvm.ClassFile.FieldType.int)) ∈ x_Ts := x_wi 426 (by decide +kernel) rfl
theorem w427 : (Jvm.Cond.methodLink "TradeLinkLaw" (61 : Nat) ({ cls := "TradeLinkLaw", name := "spoil", desc := "(LTradeLink;II[J)I" } : Jvm.MethodName)) ∈ x_Ts := x_wi 427 (by decide +kernel) rfl
theorem w428 : (Jvm.Cond.static ({ cls := "TradeLinkLaw", name := "spoil", desc := "(LTradeLink;II[J)I" } : Jvm.MethodName)) ∈ x_Ts := x_wi 428 (by decide +kernel) rfl
theorem w429 : (Jvm.Cond.codeWith ({ cls := "TradeLinkLaw", name := "spoil", desc := "(LTradeLink;II[J)I" } : Jvm.MethodName) method_4_code (5 : Nat) (Option.some Jvm.ClassFile.FieldType.int) [((0 : Nat), (10 : Nat), (13 : Nat), (19 : Nat)), ((0 : Nat), (10 : Nat), (17 : Nat), (13 : Nat))]) ∈ x_Ts := x_wi 429 (by decide +kernel) rfl
theorem w430 : (Jvm.Cond.classLink "TradeLinkLaw" (19 : Nat) "java/lang/IndexOutOfBoundsException") ∈ x_Ts := x_wi 430 (by decide +kernel) rfl
theorem w431 : (Jvm.Cond.methodLink "TradeLinkLaw" (15 : Nat) ({ cls := "TradeLink", name := "spoil", desc := "(II)I" } : Jvm.MethodName)) ∈ x_Ts := x_wi 431 (by decide +kernel) rfl
theorem w432 : (Jvm.Cond.instanceMethod ({ cls := "TradeLink", name := "spoil", desc := "(II)I" } : Jvm.MethodName)) ∈ x_Ts := x_wi 432 (by decide +kernel) rfl
theorem w433 : (Jvm.Cond.selects "TradeLink" ({ cls := "TradeLink", name := "spoil", desc := "(II)I" } : Jvm.MethodName) ({ cls := "TradeLink", name := "spoil", desc := "(II)I" } : Jvm.MethodName)) ∈ x_Ts := x_wi 433 (by decide +kernel) rfl
theorem w434 : (Jvm.Cond.code ({ cls := "TradeLink", name := "spoil", desc := "(II)I" } : Jvm.MethodName) prog_1_method_3_code (3 : Nat) (Option.some Jvm.ClassFile.FieldType.int)) ∈ x_Ts := x_wi 434 (by decide +kernel) rfl
theorem w435 : (Jvm.Cond.methodLink "TradeLink" (73 : Nat) ({ cls := "TradeLink$Row", name := "has", desc := "(I)Z" } : Jvm.MethodName)) ∈ x_Ts := x_wi 435 (by decide +kernel) rfl
theorem w436 : (Jvm.Cond.classLink "TradeLink" (76 : Nat) "java/lang/IndexOutOfBoundsException") ∈ x_Ts := x_wi 436 (by decide +kernel) rfl
theorem w437 : (Jvm.Cond.instantiable "java/lang/IndexOutOfBoundsException" (6 : Nat)) ∈ x_Ts := x_wi 437 (by decide +kernel) rfl
theorem w438 : (Jvm.Cond.castable "java/lang/IndexOutOfBoundsException" "java/lang/IndexOutOfBoundsException") ∈ x_Ts := x_wi 438 (by decide +kernel) rfl
theorem w439 : (Jvm.Cond.selects "java/lang/IndexOutOfBoundsException" ({ cls := "java/lang/Throwable", name := "fillInStackTrace", desc := "(I)Ljava/lang/Throwable;" } : Jvm.MethodName) ({ cls := "java/lang/Throwable", name := "fillInStackTrace", desc := "(I)Ljava/lang/Throwable;" } : Jvm.MethodName)) ∈ x_Ts := x_wi 439 (by decide +kernel) rfl
theorem w445 : (Jvm.Cond.methodLink "TradeLink" (78 : Nat) ({ cls := "java/lang/IndexOutOfBoundsException", name := "<init>", desc := "()V" } : Jvm.MethodName)) ∈ x_Ts := x_wi 445 (by decide +kernel) rfl
theorem w446 : (Jvm.Cond.instanceMethod ({ cls := "java/lang/IndexOutOfBoundsException", name := "<init>", desc := "()V" } : Jvm.MethodName)) ∈ x_Ts := x_wi 446 (by decide +kernel) rfl
theorem w447 : (Jvm.Cond.code ({ cls := "java/lang/IndexOutOfBoundsException", name := "<init>", desc := "()V" } : Jvm.MethodName) prog_16_method_1_code (1 : Nat) (Option.none : Option Jvm.ClassFile.FieldType)) ∈ x_Ts := x_wi 447 (by decide +kernel) rfl
theorem w448 : (Jvm.Cond.methodLink "java/lang/IndexOutOfBoundsException" (1 : Nat) ({ cls := "java/lang/RuntimeException", name := "<init>", desc := "()V" } : Jvm.MethodName)) ∈ x_Ts := x_wi 448 (by decide +kernel) rfl
theorem w451 : (Jvm.Cond.methodLink "TradeLink" (79 : Nat) ({ cls := "TradeLink$Row", name := "at", desc := "(I)I" } : Jvm.MethodName)) ∈ x_Ts := x_wi 451 (by decide +kernel) rfl
theorem w452 : (Jvm.Cond.instanceMethod ({ cls := "TradeLink$Row", name := "at", desc := "(I)I" } : Jvm.MethodName)) ∈ x_Ts := x_wi 452 (by decide +kernel) rfl
theorem w453 : (Jvm.Cond.selects "TradeLink$Row" ({ cls := "TradeLink$Row", name := "at", desc := "(I)I" } : Jvm.MethodName) ({ cls := "TradeLink$Row", name := "at", desc := "(I)I" } : Jvm.MethodName)) ∈ x_Ts := x_wi 453 (by decide +kernel) rfl
theorem w454 : (Jvm.Cond.code ({ cls := "TradeLink$Row", name := "at", desc := "(I)I" } : Jvm.MethodName) prog_8_method_5_code (2 : Nat) (Option.some Jvm.ClassFile.FieldType.int)) ∈ x_Ts := x_wi 454 (by decide +kernel) rfl
theorem w455 : (Jvm.Cond.methodLink "TradeLink" (83 : Nat) ({ cls := "TradeLink$Row", name := "set", desc := "(II)V" } : Jvm.MethodName)) ∈ x_Ts := x_wi 455 (by decide +kernel) rfl
theorem w456 : (Jvm.Cond.methodLink "TradeLinkLaw" (65 : Nat) ({ cls := "TradeLinkLaw", name := "add", desc := "(LTradeLink;I[J)I" } : Jvm.MethodName)) ∈ x_Ts := x_wi 456 (by decide +kernel) rfl
theorem w457 : (Jvm.Cond.static ({ cls := "TradeLinkLaw", name := "add", desc := "(LTradeLink;I[J)I" } : Jvm.MethodName)) ∈ x_Ts := x_wi 457 (by decide +kernel) rfl
theorem w458 : (Jvm.Cond.codeWith ({ cls := "TradeLinkLaw", name := "add", desc := "(LTradeLink;I[J)I" } : Jvm.MethodName) method_5_code (4 : Nat) (Option.some Jvm.ClassFile.FieldType.int) [((0 : Nat), (9 : Nat), (12 : Nat), (13 : Nat)), ((0 : Nat), (9 : Nat), (15 : Nat), (25 : Nat))]) ∈ x_Ts := x_wi 458 (by decide +kernel) rfl
theorem w459 : (Jvm.Cond.classLink "TradeLinkLaw" (25 : Nat) "java/lang/IllegalStateException") ∈ x_Ts := x_wi 459 (by decide +kernel) rfl
theorem w460 : (Jvm.Cond.methodLink "TradeLinkLaw" (21 : Nat) ({ cls := "TradeLink", name := "add", desc := "(I)I" } : Jvm.MethodName)) ∈ x_Ts := x_wi 460 (by decide +kernel) rfl
theorem w461 : (Jvm.Cond.instanceMethod ({ cls := "TradeLink", name := "add", desc := "(I)I" } : Jvm.MethodName)) ∈ x_Ts := x_wi 461 (by decide +kernel) rfl
theorem w462 : (Jvm.Cond.selects "TradeLink" ({ cls := "TradeLink", name := "add", desc := "(I)I" } : Jvm.MethodName) ({ cls := "TradeLink", name := "add", desc := "(I)I" } : Jvm.MethodName)) ∈ x_Ts := x_wi 462 (by decide +kernel) rfl
theorem w463 : (Jvm.Cond.code ({ cls := "TradeLink", name := "add", desc := "(I)I" } : Jvm.MethodName) prog_1_method_4_code (2 : Nat) (Option.some Jvm.ClassFile.FieldType.int)) ∈ x_Ts := x_wi 463 (by decide +kernel) rfl
theorem w464 : (Jvm.Cond.methodLink "TradeLink" (87 : Nat) ({ cls := "TradeLink$Row", name := "isFull", desc := "()Z" } : Jvm.MethodName)) ∈ x_Ts := x_wi 464 (by decide +kernel) rfl
theorem w465 : (Jvm.Cond.instanceMethod ({ cls := "TradeLink$Row", name := "isFull", desc := "()Z" } : Jvm.MethodName)) ∈ x_Ts := x_wi 465 (by decide +kernel) rfl
theorem w466 : (Jvm.Cond.selects "TradeLink$Row" ({ cls := "TradeLink$Row", name := "isFull", desc := "()Z" } : Jvm.MethodName) ({ cls := "TradeLink$Row", name := "isFull", desc := "()Z" } : Jvm.MethodName)) ∈ x_Ts := x_wi 466 (by decide +kernel) rfl
theorem w467 : (Jvm.Cond.code ({ cls := "TradeLink$Row", name := "isFull", desc := "()Z" } : Jvm.MethodName) prog_8_method_3_code (1 : Nat) (Option.some Jvm.ClassFile.FieldType.boolean)) ∈ x_Ts := x_wi 467 (by decide +kernel) rfl
theorem w468 : (Jvm.Cond.classLink "TradeLink" (91 : Nat) "java/lang/IllegalStateException") ∈ x_Ts := x_wi 468 (by decide +kernel) rfl
theorem w469 : (Jvm.Cond.instantiable "java/lang/IllegalStateException" (6 : Nat)) ∈ x_Ts := x_wi 469 (by decide +kernel) rfl
theorem w470 : (Jvm.Cond.castable "java/lang/IllegalStateException" "java/lang/IllegalStateException") ∈ x_Ts := x_wi 470 (by decide +kernel) rfl
theorem w471 : (Jvm.Cond.selects "java/lang/IllegalStateException" ({ cls := "java/lang/Throwable", name := "fillInStackTrace", desc := "(I)Ljava/lang/Throwable;" } : Jvm.MethodName) ({ cls := "java/lang/Throwable", name := "fillInStackTrace", desc := "(I)Ljava/lang/Throwable;" } : Jvm.MethodName)) ∈ x_Ts := x_wi 471 (by decide +kernel) rfl
theorem w477 : (Jvm.Cond.methodLink "TradeLink" (93 : Nat) ({ cls := "java/lang/IllegalStateException", name := "<init>", desc := "()V" } : Jvm.MethodName)) ∈ x_Ts := x_wi 477 (by decide +kernel) rfl
theorem w478 : (Jvm.Cond.instanceMethod ({ cls := "java/lang/IllegalStateException", name := "<init>", desc := "()V" } : Jvm.MethodName)) ∈ x_Ts := x_wi 478 (by decide +kernel) rfl
theorem w479 : (Jvm.Cond.code ({ cls := "java/lang/IllegalStateException", name := "<init>", desc := "()V" } : Jvm.MethodName) prog_15_method_1_code (1 : Nat) (Option.none : Option Jvm.ClassFile.FieldType)) ∈ x_Ts := x_wi 479 (by decide +kernel) rfl
theorem w480 : (Jvm.Cond.methodLink "java/lang/IllegalStateException" (1 : Nat) ({ cls := "java/lang/RuntimeException", name := "<init>", desc := "()V" } : Jvm.MethodName)) ∈ x_Ts := x_wi 480 (by decide +kernel) rfl
theorem w483 : (Jvm.Cond.methodLink "TradeLink" (94 : Nat) ({ cls := "TradeLink$Row", name := "append", desc := "(I)V" } : Jvm.MethodName)) ∈ x_Ts := x_wi 483 (by decide +kernel) rfl
theorem w484 : (Jvm.Cond.methodLink "TradeLinkLaw" (69 : Nat) ({ cls := "TradeLinkLaw", name := "take", desc := "(LTradeLink;[J)I" } : Jvm.MethodName)) ∈ x_Ts := x_wi 484 (by decide +kernel) rfl
theorem w485 : (Jvm.Cond.static ({ cls := "TradeLinkLaw", name := "take", desc := "(LTradeLink;[J)I" } : Jvm.MethodName)) ∈ x_Ts := x_wi 485 (by decide +kernel) rfl
theorem w486 : (Jvm.Cond.codeWith ({ cls := "TradeLinkLaw", name := "take", desc := "(LTradeLink;[J)I" } : Jvm.MethodName) method_6_code (3 : Nat) (Option.some Jvm.ClassFile.FieldType.int) [((0 : Nat), (8 : Nat), (11 : Nat), (25 : Nat))]) ∈ x_Ts := x_wi 486 (by decide +kernel) rfl
theorem w487 : (Jvm.Cond.methodLink "TradeLinkLaw" (27 : Nat) ({ cls := "TradeLink", name := "take", desc := "()I" } : Jvm.MethodName)) ∈ x_Ts := x_wi 487 (by decide +kernel) rfl
theorem w488 : (Jvm.Cond.instanceMethod ({ cls := "TradeLink", name := "take", desc := "()I" } : Jvm.MethodName)) ∈ x_Ts := x_wi 488 (by decide +kernel) rfl
theorem w489 : (Jvm.Cond.selects "TradeLink" ({ cls := "TradeLink", name := "take", desc := "()I" } : Jvm.MethodName) ({ cls := "TradeLink", name := "take", desc := "()I" } : Jvm.MethodName)) ∈ x_Ts := x_wi 489 (by decide +kernel) rfl
theorem w490 : (Jvm.Cond.code ({ cls := "TradeLink", name := "take", desc := "()I" } : Jvm.MethodName) prog_1_method_5_code (2 : Nat) (Option.some Jvm.ClassFile.FieldType.int)) ∈ x_Ts := x_wi 490 (by decide +kernel) rfl
theorem w491 : (Jvm.Cond.methodLink "TradeLink" (98 : Nat) ({ cls := "TradeLink$Inbox", name := "scan", desc := "(LTradeLink$Message;)Z" } : Jvm.MethodName)) ∈ x_Ts := x_wi 491 (by decide +kernel) rfl
theorem w492 : (Jvm.Cond.instanceMethod ({ cls := "TradeLink$Inbox", name := "scan", desc := "(LTradeLink$Message;)Z" } : Jvm.MethodName)) ∈ x_Ts := x_wi 492 (by decide +kernel) rfl
theorem w493 : (Jvm.Cond.selects "TradeLink$Inbox" ({ cls := "TradeLink$Inbox", name := "scan", desc := "(LTradeLink$Message;)Z" } : Jvm.MethodName) ({ cls := "TradeLink$Inbox", name := "scan", desc := "(LTradeLink$Message;)Z" } : Jvm.MethodName)) ∈ x_Ts := x_wi 493 (by decide +kernel) rfl
theorem w494 : (Jvm.Cond.code ({ cls := "TradeLink$Inbox", name := "scan", desc := "(LTradeLink$Message;)Z" } : Jvm.MethodName) prog_3_method_2_code (4 : Nat) (Option.some Jvm.ClassFile.FieldType.boolean)) ∈ x_Ts := x_wi 494 (by decide +kernel) rfl
theorem w495 : (Jvm.Cond.methodLink "TradeLink$Inbox" (22 : Nat) ({ cls := "TradeLink$Inbox", name := "opens", desc := "(I)Z" } : Jvm.MethodName)) ∈ x_Ts := x_wi 495 (by decide +kernel) rfl
theorem w497 : (Jvm.Cond.instanceMethod ({ cls := "TradeLink$Inbox", name := "opens", desc := "(I)Z" } : Jvm.MethodName)) ∈ x_Ts := x_wi 497 (by decide +kernel) rfl
theorem w498 : (Jvm.Cond.code ({ cls := "TradeLink$Inbox", name := "opens", desc := "(I)Z" } : Jvm.MethodName) prog_3_method_6_code (4 : Nat) (Option.some Jvm.ClassFile.FieldType.boolean)) ∈ x_Ts := x_wi 498 (by decide +kernel) rfl
theorem w499 : (Jvm.Cond.methodLink "TradeLink$Inbox" (79 : Nat) ({ cls := "TradeLink$Row", name := "at", desc := "(I)I" } : Jvm.MethodName)) ∈ x_Ts := x_wi 499 (by decide +kernel) rfl
theorem w500 : (Jvm.Cond.methodLink "TradeLink$Inbox" (26 : Nat) ({ cls := "TradeLink$Inbox", name := "character", desc := "()I" } : Jvm.MethodName)) ∈ x_Ts := x_wi 500 (by decide +kernel) rfl
theorem w502 : (Jvm.Cond.instanceMethod ({ cls := "TradeLink$Inbox", name := "character", desc := "()I" } : Jvm.MethodName)) ∈ x_Ts := x_wi 502 (by decide +kernel) rfl
theorem w503 : (Jvm.Cond.code ({ cls := "TradeLink$Inbox", name := "character", desc := "()I" } : Jvm.MethodName) prog_3_method_8_code (2 : Nat) (Option.some Jvm.ClassFile.FieldType.int)) ∈ x_Ts := x_wi 503 (by decide +kernel) rfl
theorem w504 : (Jvm.Cond.methodLink "TradeLink$Inbox" (81 : Nat) ({ cls := "TradeLink$Inbox", name := "closes", desc := "()Z" } : Jvm.MethodName)) ∈ x_Ts := x_wi 504 (by decide +kernel) rfl
theorem w506 : (Jvm.Cond.instanceMethod ({ cls := "TradeLink$Inbox", name := "closes", desc := "()Z" } : Jvm.MethodName)) ∈ x_Ts := x_wi 506 (by decide +kernel) rfl
theorem w507 : (Jvm.Cond.code ({ cls := "TradeLink$Inbox", name := "closes", desc := "()Z" } : Jvm.MethodName) prog_3_method_10_code (2 : Nat) (Option.some Jvm.ClassFile.FieldType.boolean)) ∈ x_Ts := x_wi 507 (by decide +kernel) rfl
theorem w508 : (Jvm.Cond.methodLink "TradeLink$Inbox" (30 : Nat) ({ cls := "TradeLink$Inbox", name := "number", desc := "()I" } : Jvm.MethodName)) ∈ x_Ts := x_wi 508 (by decide +kernel) rfl
theorem w510 : (Jvm.Cond.instanceMethod ({ cls := "TradeLink$Inbox", name := "number", desc := "()I" } : Jvm.MethodName)) ∈ x_Ts := x_wi 510 (by decide +kernel) rfl
theorem w511 : (Jvm.Cond.code ({ cls := "TradeLink$Inbox", name := "number", desc := "()I" } : Jvm.MethodName) prog_3_method_7_code (3 : Nat) (Option.some Jvm.ClassFile.FieldType.int)) ∈ x_Ts := x_wi 511 (by decide +kernel) rfl
theorem w512 : (Jvm.Cond.methodLink "TradeLink$Inbox" (33 : Nat) ({ cls := "TradeLink$Inbox", name := "scanHead", desc := "(LTradeLink$Message;)Z" } : Jvm.MethodName)) ∈ x_Ts := x_wi 512 (by decide +kernel) rfl
theorem w514 : (Jvm.Cond.instanceMethod ({ cls := "TradeLink$Inbox", name := "scanHead", desc := "(LTradeLink$Message;)Z" } : Jvm.MethodName)) ∈ x_Ts := x_wi 514 (by decide +kernel) rfl
theorem w515 : (Jvm.Cond.code ({ cls := "TradeLink$Inbox", name := "scanHead", desc := "(LTradeLink$Message;)Z" } : Jvm.MethodName) prog_3_method_3_code (5 : Nat) (Option.some Jvm.ClassFile.FieldType.boolean)) ∈ x_Ts := x_wi 515 (by decide +kernel) rfl
theorem w516 : (Jvm.Cond.methodLink "TradeLink$Inbox" (44 : Nat) ({ cls := "TradeLink$Layout", name := "isPeerType", desc := "(I)Z" } : Jvm.MethodName)) ∈ x_Ts := x_wi 516 (by decide +kernel) rfl
theorem w517 : (Jvm.Cond.methodLink "TradeLink$Inbox" (49 : Nat) ({ cls := "TradeLink$Message", name := "begin", desc := "(IIZ)V" } : Jvm.MethodName)) ∈ x_Ts := x_wi 517 (by decide +kernel) rfl
theorem w518 : (Jvm.Cond.methodLink "TradeLink$Inbox" (37 : Nat) ({ cls := "TradeLink$Inbox", name := "scanOwnFields", desc := "(LTradeLink$Message;)Z" } : Jvm.MethodName)) ∈ x_Ts := x_wi 518 (by decide +kernel) rfl
theorem w520 : (Jvm.Cond.instanceMethod ({ cls := "TradeLink$Inbox", name := "scanOwnFields", desc := "(LTradeLink$Message;)Z" } : Jvm.MethodName)) ∈ x_Ts := x_wi 520 (by decide +kernel) rfl
theorem w521 : (Jvm.Cond.code ({ cls := "TradeLink$Inbox", name := "scanOwnFields", desc := "(LTradeLink$Message;)Z" } : Jvm.MethodName) prog_3_method_4_code (5 : Nat) (Option.some Jvm.ClassFile.FieldType.boolean)) ∈ x_Ts := x_wi 521 (by decide +kernel) rfl
theorem w522 : (Jvm.Cond.methodLink "TradeLink$Inbox" (58 : Nat) ({ cls := "TradeLink$Layout", name := "fieldCount", desc := "(I)I" } : Jvm.MethodName)) ∈ x_Ts := x_wi 522 (by decide +kernel) rfl
theorem w523 : (Jvm.Cond.methodLink "TradeLink$Inbox" (66 : Nat) ({ cls := "TradeLink$Layout", name := "tag", desc := "(II)I" } : Jvm.MethodName)) ∈ x_Ts := x_wi 523 (by decide +kernel) rfl
theorem w524 : (Jvm.Cond.methodLink "TradeLink$Inbox" (70 : Nat) ({ cls := "TradeLink$Inbox", name := "yesOrNo", desc := "()I" } : Jvm.MethodName)) ∈ x_Ts := x_wi 524 (by decide +kernel) rfl
theorem w526 : (Jvm.Cond.instanceMethod ({ cls := "TradeLink$Inbox", name := "yesOrNo", desc := "()I" } : Jvm.MethodName)) ∈ x_Ts := x_wi 526 (by decide +kernel) rfl
theorem w527 : (Jvm.Cond.code ({ cls := "TradeLink$Inbox", name := "yesOrNo", desc := "()I" } : Jvm.MethodName) prog_3_method_9_code (2 : Nat) (Option.some Jvm.ClassFile.FieldType.int)) ∈ x_Ts := x_wi 527 (by decide +kernel) rfl
theorem w528 : (Jvm.Cond.methodLink "TradeLink$Inbox" (40 : Nat) ({ cls := "TradeLink$Inbox", name := "scanSum", desc := "()Z" } : Jvm.MethodName)) ∈ x_Ts := x_wi 528 (by decide +kernel) rfl
theorem w530 : (Jvm.Cond.instanceMethod ({ cls := "TradeLink$Inbox", name := "scanSum", desc := "()Z" } : Jvm.MethodName)) ∈ x_Ts := x_wi 530 (by decide +kernel) rfl
theorem w531 : (Jvm.Cond.code ({ cls := "TradeLink$Inbox", name := "scanSum", desc := "()Z" } : Jvm.MethodName) prog_3_method_5_code (3 : Nat) (Option.some Jvm.ClassFile.FieldType.boolean)) ∈ x_Ts := x_wi 531 (by decide +kernel) rfl
theorem w532 : (Jvm.Cond.methodLink "TradeLink$Inbox" (73 : Nat) ({ cls := "TradeLink$Row", name := "sumBefore", desc := "(I)I" } : Jvm.MethodName)) ∈ x_Ts := x_wi 532 (by decide +kernel) rfl
theorem w533 : (Jvm.Cond.methodLink "TradeLink" (102 : Nat) ({ cls := "TradeLink$Row", name := "clear", desc := "()V" } : Jvm.MethodName)) ∈ x_Ts := x_wi 533 (by decide +kernel) rfl
theorem w534 : (Jvm.Cond.methodLink "TradeLink" (103 : Nat) ({ cls := "TradeLink$Session", name := "receive", desc := "(LTradeLink$Message;)I" } : Jvm.MethodName)) ∈ x_Ts := x_wi 534 (by decide +kernel) rfl
theorem w535 : (Jvm.Cond.instanceMethod ({ cls := "TradeLink$Session", name := "receive", desc := "(LTradeLink$Message;)I" } : Jvm.MethodName)) ∈ x_Ts := x_wi 535 (by decide +kernel) rfl
theorem w536 : (Jvm.Cond.selects "TradeLink$Session" ({ cls := "TradeLink$Session", name := "receive", desc := "(LTradeLink$Message;)I" } : Jvm.MethodName) ({ cls := "TradeLink$Session", name := "receive", desc := "(LTradeLink$Message;)I" } : Jvm.MethodName)) ∈ x_Ts := x_wi 536 (by decide +kernel) rfl
theorem w537 : (Jvm.Cond.code ({ cls := "TradeLink$Session", name := "receive", desc := "(LTradeLink$Message;)I" } : Jvm.MethodName) prog_9_method_2_code (2 : Nat) (Option.some Jvm.ClassFile.FieldType.int)) ∈ x_Ts := x_wi 537 (by decide +kernel) rfl
theorem w538 : (Jvm.Cond.methodLink "TradeLink$Session" (54 : Nat) ({ cls := "TradeLink$Message", name := "isFill", desc := "()Z" } : Jvm.MethodName)) ∈ x_Ts := x_wi 538 (by decide +kernel) rfl
theorem w539 : (Jvm.Cond.methodLink "TradeLink$Session" (62 : Nat) ({ cls := "TradeLink$Session", name := "raiseAwaited", desc := "(I)Z" } : Jvm.MethodName)) ∈ x_Ts := x_wi 539 (by decide +kernel) rfl
theorem w541 : (Jvm.Cond.instanceMethod ({ cls := "TradeLink$Session", name := "raiseAwaited", desc := "(I)Z" } : Jvm.MethodName)) ∈ x_Ts := x_wi 541 (by decide +kernel) rfl
theorem w542 : (Jvm.Cond.code ({ cls := "TradeLink$Session", name := "raiseAwaited", desc := "(I)Z" } : Jvm.MethodName) prog_9_method_9_code (2 : Nat) (Option.some Jvm.ClassFile.FieldType.boolean)) ∈ x_Ts := x_wi 542 (by decide +kernel) rfl
theorem w543 : (Jvm.Cond.methodLink "TradeLink$Session" (72 : Nat) ({ cls := "TradeLink$Session", name := "receiveLow", desc := "(Z)I" } : Jvm.MethodName)) ∈ x_Ts := x_wi 543 (by decide +kernel) rfl
theorem w545 : (Jvm.Cond.instanceMethod ({ cls := "TradeLink$Session", name := "receiveLow", desc := "(Z)I" } : Jvm.MethodName)) ∈ x_Ts := x_wi 545 (by decide +kernel) rfl
theorem w546 : (Jvm.Cond.code ({ cls := "TradeLink$Session", name := "receiveLow", desc := "(Z)I" } : Jvm.MethodName) prog_9_method_6_code (2 : Nat) (Option.some Jvm.ClassFile.FieldType.int)) ∈ x_Ts := x_wi 546 (by decide +kernel) rfl
theorem w547 : (Jvm.Cond.methodLink "TradeLink$Session" (80 : Nat) ({ cls := "TradeLink$Session", name := "receiveEarly", desc := "(LTradeLink$Message;)I" } : Jvm.MethodName)) ∈ x_Ts := x_wi 547 (by decide +kernel) rfl
theorem w549 : (Jvm.Cond.instanceMethod ({ cls := "TradeLink$Session", name := "receiveEarly", desc := "(LTradeLink$Message;)I" } : Jvm.MethodName)) ∈ x_Ts := x_wi 549 (by decide +kernel) rfl
theorem w550 : (Jvm.Cond.code ({ cls := "TradeLink$Session", name := "receiveEarly", desc := "(LTradeLink$Message;)I" } : Jvm.MethodName) prog_9_method_7_code (2 : Nat) (Option.some Jvm.ClassFile.FieldType.int)) ∈ x_Ts := x_wi 550 (by decide +kernel) rfl
theorem w551 : (Jvm.Cond.methodLink "TradeLink$Session" (127 : Nat) ({ cls := "TradeLink$Session", name := "answerResend", desc := "(II)V" } : Jvm.MethodName)) ∈ x_Ts := x_wi 551 (by decide +kernel) rfl
theorem w553 : (Jvm.Cond.instanceMethod ({ cls := "TradeLink$Session", name := "answerResend", desc := "(II)V" } : Jvm.MethodName)) ∈ x_Ts := x_wi 553 (by decide +kernel) rfl
theorem w554 : (Jvm.Cond.code ({ cls := "TradeLink$Session", name := "answerResend", desc := "(II)V" } : Jvm.MethodName) prog_9_method_13_code (7 : Nat) (Option.none : Option Jvm.ClassFile.FieldType)) ∈ x_Ts := x_wi 554 (by decide +kernel) rfl
theorem w555 : (Jvm.Cond.methodLink "TradeLink$Session" (131 : Nat) ({ cls := "java/lang/Math", name := "max", desc := "(II)I" } : Jvm.MethodName)) ∈ x_Ts := x_wi 555 (by decide +kernel) rfl
theorem w556 : (Jvm.Cond.static ({ cls := "java/lang/Math", name := "max", desc := "(II)I" } : Jvm.MethodName)) ∈ x_Ts := x_wi 556 (by decide +kernel) rfl
theorem w557 : (Jvm.Cond.code ({ cls := "java/lang/Math", name := "max", desc := "(II)I" } : Jvm.MethodName) prog_17_method_65_code (2 : Nat) (Option.some Jvm.ClassFile.FieldType.int)) ∈ x_Ts := x_wi 557 (by decide +kernel) rfl
theorem w558 : (Jvm.Cond.methodLink "TradeLink$Session" (154 : Nat) ({ cls := "TradeLink$Store", name := "numberOf", desc := "(I)I" } : Jvm.MethodName)) ∈ x_Ts := x_wi 558 (by decide +kernel) rfl
theorem w559 : (Jvm.Cond.instanceMethod ({ cls := "TradeLink$Store", name := "numberOf", desc := "(I)I" } : Jvm.MethodName)) ∈ x_Ts := x_wi 559 (by decide +kernel) rfl
theorem w560 : (Jvm.Cond.selects "TradeLink$Store" ({ cls := "TradeLink$Store", name := "numberOf", desc := "(I)I" } : Jvm.MethodName) ({ cls := "TradeLink$Store", name := "numberOf", desc := "(I)I" } : Jvm.MethodName)) ∈ x_Ts := x_wi 560 (by decide +kernel) rfl
theorem w561 : (Jvm.Cond.code ({ cls := "TradeLink$Store", name := "numberOf", desc := "(I)I" } : Jvm.MethodName) prog_10_method_3_code (2 : Nat) (Option.some Jvm.ClassFile.FieldType.int)) ∈ x_Ts := x_wi 561 (by decide +kernel) rfl
theorem w562 : (Jvm.Cond.methodLink "TradeLink$Session" (158 : Nat) ({ cls := "TradeLink$Session", name := "postGap", desc := "(II)V" } : Jvm.MethodName)) ∈ x_Ts := x_wi 562 (by decide +kernel) rfl
theorem w564 : (Jvm.Cond.instanceMethod ({ cls := "TradeLink$Session", name := "postGap", desc := "(II)V" } : Jvm.MethodName)) ∈ x_Ts := x_wi 564 (by decide +kernel) rfl
theorem w565 : (Jvm.Cond.code ({ cls := "TradeLink$Session", name := "postGap", desc := "(II)V" } : Jvm.MethodName) prog_9_method_14_code (3 : Nat) (Option.none : Option Jvm.ClassFile.FieldType)) ∈ x_Ts := x_wi 565 (by decide +kernel) rfl
theorem w566 : (Jvm.Cond.methodLink "TradeLink$Session" (161 : Nat) ({ cls := "TradeLink$Store", name := "recall", desc := "(ILTradeLink$Message;)V" } : Jvm.MethodName)) ∈ x_Ts := x_wi 566 (by decide +kernel) rfl
theorem w567 : (Jvm.Cond.instanceMethod ({ cls := "TradeLink$Store", name := "recall", desc := "(ILTradeLink$Message;)V" } : Jvm.MethodName)) ∈ x_Ts := x_wi 567 (by decide +kernel) rfl
theorem w568 : (Jvm.Cond.selects "TradeLink$Store" ({ cls := "TradeLink$Store", name := "recall", desc := "(ILTradeLink$Message;)V" } : Jvm.MethodName) ({ cls := "TradeLink$Store", name := "recall", desc := "(ILTradeLink$Message;)V" } : Jvm.MethodName)) ∈ x_Ts := x_wi 568 (by decide +kernel) rfl
theorem w569 : (Jvm.Cond.code ({ cls := "TradeLink$Store", name := "recall", desc := "(ILTradeLink$Message;)V" } : Jvm.MethodName) prog_10_method_4_code (4 : Nat) (Option.none : Option Jvm.ClassFile.FieldType)) ∈ x_Ts := x_wi 569 (by decide +kernel) rfl
theorem w570 : (Jvm.Cond.methodLink "TradeLink$Store" (19 : Nat) ({ cls := "TradeLink$Message", name := "say", desc := "(IIII)V" } : Jvm.MethodName)) ∈ x_Ts := x_wi 570 (by decide +kernel) rfl
theorem w571 : (Jvm.Cond.methodLink "TradeLink$Session" (84 : Nat) ({ cls := "TradeLink$Session", name := "receiveInTurn", desc := "(LTradeLink$Message;)V" } : Jvm.MethodName)) ∈ x_Ts := x_wi 571 (by decide +kernel) rfl
theorem w573 : (Jvm.Cond.instanceMethod ({ cls := "TradeLink$Session", name := "receiveInTurn", desc := "(LTradeLink$Message;)V" } : Jvm.MethodName)) ∈ x_Ts := x_wi 573 (by decide +kernel) rfl
theorem w574 : (Jvm.Cond.code ({ cls := "TradeLink$Session", name := "receiveInTurn", desc := "(LTradeLink$Message;)V" } : Jvm.MethodName) prog_9_method_8_code (2 : Nat) (Option.none : Option Jvm.ClassFile.FieldType)) ∈ x_Ts := x_wi 574 (by decide +kernel) rfl
theorem w575 : (Jvm.Cond.methodLink "TradeLink$Session" (140 : Nat) ({ cls := "TradeLink$Book", name := "carryOut", desc := "(LTradeLink$Message;)LTradeLink$Order;" } : Jvm.MethodName)) ∈ x_Ts := x_wi 575 (by decide +kernel) rfl
theorem w576 : (Jvm.Cond.instanceMethod ({ cls := "TradeLink$Book", name := "carryOut", desc := "(LTradeLink$Message;)LTradeLink$Order;" } : Jvm.MethodName)) ∈ x_Ts := x_wi 576 (by decide +kernel) rfl
theorem w577 : (Jvm.Cond.selects "TradeLink$Book" ({ cls := "TradeLink$Book", name := "carryOut", desc := "(LTradeLink$Message;)LTradeLink$Order;" } : Jvm.MethodName) ({ cls := "TradeLink$Book", name := "carryOut", desc := "(LTradeLink$Message;)LTradeLink$Order;" } : Jvm.MethodName)) ∈ x_Ts := x_wi 577 (by decide +kernel) rfl
theorem w578 : (Jvm.Cond.code ({ cls := "TradeLink$Book", name := "carryOut", desc := "(LTradeLink$Message;)LTradeLink$Order;" } : Jvm.MethodName) prog_2_method_4_code (4 : Nat) (Option.some (Jvm.ClassFile.FieldType.object "TradeLink$Order"))) ∈ x_Ts := x_wi 578 (by decide +kernel) rfl
theorem w579 : (Jvm.Cond.methodLink "TradeLink$Book" (42 : Nat) ({ cls := "TradeLink$Book", name := "isUsed", desc := "(I)Z" } : Jvm.MethodName)) ∈ x_Ts := x_wi 579 (by decide +kernel) rfl
theorem w581 : (Jvm.Cond.instanceMethod ({ cls := "TradeLink$Book", name := "isUsed", desc := "(I)Z" } : Jvm.MethodName)) ∈ x_Ts := x_wi 581 (by decide +kernel) rfl
theorem w582 : (Jvm.Cond.code ({ cls := "TradeLink$Book", name := "isUsed", desc := "(I)Z" } : Jvm.MethodName) prog_2_method_7_code (3 : Nat) (Option.some Jvm.ClassFile.FieldType.boolean)) ∈ x_Ts := x_wi 582 (by decide +kernel) rfl
theorem w583 : (Jvm.Cond.methodLink "TradeLink$Book" (49 : Nat) ({ cls := "TradeLink$Book", name := "enter", desc := "(II)LTradeLink$Order;" } : Jvm.MethodName)) ∈ x_Ts := x_wi 583 (by decide +kernel) rfl
theorem w585 : (Jvm.Cond.instanceMethod ({ cls := "TradeLink$Book", name := "enter", desc := "(II)LTradeLink$Order;" } : Jvm.MethodName)) ∈ x_Ts := x_wi 585 (by decide +kernel) rfl
theorem w586 : (Jvm.Cond.code ({ cls := "TradeLink$Book", name := "enter", desc := "(II)LTradeLink$Order;" } : Jvm.MethodName) prog_2_method_5_code (4 : Nat) (Option.some (Jvm.ClassFile.FieldType.object "TradeLink$Order"))) ∈ x_Ts := x_wi 586 (by decide +kernel) rfl
theorem w587 : (Jvm.Cond.methodLink "TradeLink$Book" (53 : Nat) ({ cls := "TradeLink$Book", name := "amend", desc := "(IZI)LTradeLink$Order;" } : Jvm.MethodName)) ∈ x_Ts := x_wi 587 (by decide +kernel) rfl
theorem w589 : (Jvm.Cond.instanceMethod ({ cls := "TradeLink$Book", name := "amend", desc := "(IZI)LTradeLink$Order;" } : Jvm.MethodName)) ∈ x_Ts := x_wi 589 (by decide +kernel) rfl
theorem w590 : (Jvm.Cond.code ({ cls := "TradeLink$Book", name := "amend", desc := "(IZI)LTradeLink$Order;" } : Jvm.MethodName) prog_2_method_6_code (5 : Nat) (Option.some (Jvm.ClassFile.FieldType.object "TradeLink$Order"))) ∈ x_Ts := x_wi 590 (by decide +kernel) rfl
theorem w591 : (Jvm.Cond.methodLink "TradeLink$Book" (67 : Nat) ({ cls := "TradeLink$Book", name := "findOpen", desc := "(I)LTradeLink$Order;" } : Jvm.MethodName)) ∈ x_Ts := x_wi 591 (by decide +kernel) rfl
theorem w592 : (Jvm.Cond.instanceMethod ({ cls := "TradeLink$Book", name := "findOpen", desc := "(I)LTradeLink$Order;" } : Jvm.MethodName)) ∈ x_Ts := x_wi 592 (by decide +kernel) rfl
theorem w593 : (Jvm.Cond.selects "TradeLink$Book" ({ cls := "TradeLink$Book", name := "findOpen", desc := "(I)LTradeLink$Order;" } : Jvm.MethodName) ({ cls := "TradeLink$Book", name := "findOpen", desc := "(I)LTradeLink$Order;" } : Jvm.MethodName)) ∈ x_Ts := x_wi 593 (by decide +kernel) rfl
theorem w594 : (Jvm.Cond.code ({ cls := "TradeLink$Book", name := "findOpen", desc := "(I)LTradeLink$Order;" } : Jvm.MethodName) prog_2_method_3_code (3 : Nat) (Option.some (Jvm.ClassFile.FieldType.object "TradeLink$Order"))) ∈ x_Ts := x_wi 594 (by decide +kernel) rfl
theorem w595 : (Jvm.Cond.methodLink "TradeLink$Book" (29 : Nat) ({ cls := "TradeLink$Book", name := "find", desc := "(I)LTradeLink$Order;" } : Jvm.MethodName)) ∈ x_Ts := x_wi 595 (by decide +kernel) rfl
theorem w596 : (Jvm.Cond.instanceMethod ({ cls := "TradeLink$Book", name := "find", desc := "(I)LTradeLink$Order;" } : Jvm.MethodName)) ∈ x_Ts := x_wi 596 (by decide +kernel) rfl
theorem w597 : (Jvm.Cond.selects "TradeLink$Book" ({ cls := "TradeLink$Book", name := "find", desc := "(I)LTradeLink$Order;" } : Jvm.MethodName) ({ cls := "TradeLink$Book", name := "find", desc := "(I)LTradeLink$Order;" } : Jvm.MethodName)) ∈ x_Ts := x_wi 597 (by decide +kernel) rfl
theorem w598 : (Jvm.Cond.code ({ cls := "TradeLink$Book", name := "find", desc := "(I)LTradeLink$Order;" } : Jvm.MethodName) prog_2_method_2_code (3 : Nat) (Option.some (Jvm.ClassFile.FieldType.object "TradeLink$Order"))) ∈ x_Ts := x_wi 598 (by decide +kernel) rfl
theorem w599 : (Jvm.Cond.methodLink "TradeLink$Book" (33 : Nat) ({ cls := "TradeLink$Order", name := "isOpen", desc := "()Z" } : Jvm.MethodName)) ∈ x_Ts := x_wi 599 (by decide +kernel) rfl
theorem w600 : (Jvm.Cond.instanceMethod ({ cls := "TradeLink$Order", name := "isOpen", desc := "()Z" } : Jvm.MethodName)) ∈ x_Ts := x_wi 600 (by decide +kernel) rfl
theorem w601 : (Jvm.Cond.selects "TradeLink$Order" ({ cls := "TradeLink$Order", name := "isOpen", desc := "()Z" } : Jvm.MethodName) ({ cls := "TradeLink$Order", name := "isOpen", desc := "()Z" } : Jvm.MethodName)) ∈ x_Ts := x_wi 601 (by decide +kernel) rfl
theorem w602 : (Jvm.Cond.code ({ cls := "TradeLink$Order", name := "isOpen", desc := "()Z" } : Jvm.MethodName) prog_6_method_2_code (1 : Nat) (Option.some Jvm.ClassFile.FieldType.boolean)) ∈ x_Ts := x_wi 602 (by decide +kernel) rfl
theorem w603 : (Jvm.Cond.methodLink "TradeLink$Book" (57 : Nat) ({ cls := "TradeLink$Book", name := "use", desc := "(I)V" } : Jvm.MethodName)) ∈ x_Ts := x_wi 603 (by decide +kernel) rfl
theorem w605 : (Jvm.Cond.instanceMethod ({ cls := "TradeLink$Book", name := "use", desc := "(I)V" } : Jvm.MethodName)) ∈ x_Ts := x_wi 605 (by decide +kernel) rfl
theorem w606 : (Jvm.Cond.code ({ cls := "TradeLink$Book", name := "use", desc := "(I)V" } : Jvm.MethodName) prog_2_method_8_code (2 : Nat) (Option.none : Option Jvm.ClassFile.FieldType)) ∈ x_Ts := x_wi 606 (by decide +kernel) rfl
theorem w607 : (Jvm.Cond.methodLink "TradeLink$Session" (144 : Nat) ({ cls := "TradeLink$Session", name := "report", desc := "(ILTradeLink$Order;)V" } : Jvm.MethodName)) ∈ x_Ts := x_wi 607 (by decide +kernel) rfl
theorem w608 : (Jvm.Cond.instanceMethod ({ cls := "TradeLink$Session", name := "report", desc := "(ILTradeLink$Order;)V" } : Jvm.MethodName)) ∈ x_Ts := x_wi 608 (by decide +kernel) rfl
theorem w609 : (Jvm.Cond.selects "TradeLink$Session" ({ cls := "TradeLink$Session", name := "report", desc := "(ILTradeLink$Order;)V" } : Jvm.MethodName) ({ cls := "TradeLink$Session", name := "report", desc := "(ILTradeLink$Order;)V" } : Jvm.MethodName)) ∈ x_Ts := x_wi 609 (by decide +kernel) rfl
theorem w610 : (Jvm.Cond.code ({ cls := "TradeLink$Session", name := "report", desc := "(ILTradeLink$Order;)V" } : Jvm.MethodName) prog_9_method_5_code (6 : Nat) (Option.none : Option Jvm.ClassFile.FieldType)) ∈ x_Ts := x_wi 610 (by decide +kernel) rfl
theorem w611 : (Jvm.Cond.methodLink "TradeLink$Session" (103 : Nat) ({ cls := "TradeLink$Order", name := "state", desc := "()I" } : Jvm.MethodName)) ∈ x_Ts := x_wi 611 (by decide +kernel) rfl
theorem w612 : (Jvm.Cond.instanceMethod ({ cls := "TradeLink$Order", name := "state", desc := "()I" } : Jvm.MethodName)) ∈ x_Ts := x_wi 612 (by decide +kernel) rfl
theorem w613 : (Jvm.Cond.selects "TradeLink$Order" ({ cls := "TradeLink$Order", name := "state", desc := "()I" } : Jvm.MethodName) ({ cls := "TradeLink$Order", name := "state", desc := "()I" } : Jvm.MethodName)) ∈ x_Ts := x_wi 613 (by decide +kernel) rfl
theorem w614 : (Jvm.Cond.code ({ cls := "TradeLink$Order", name := "state", desc := "()I" } : Jvm.MethodName) prog_6_method_4_code (1 : Nat) (Option.some Jvm.ClassFile.FieldType.int)) ∈ x_Ts := x_wi 614 (by decide +kernel) rfl
theorem w615 : (Jvm.Cond.methodLink "TradeLink$Session" (112 : Nat) ({ cls := "TradeLink$Order", name := "left", desc := "()I" } : Jvm.MethodName)) ∈ x_Ts := x_wi 615 (by decide +kernel) rfl
theorem w616 : (Jvm.Cond.instanceMethod ({ cls := "TradeLink$Order", name := "left", desc := "()I" } : Jvm.MethodName)) ∈ x_Ts := x_wi 616 (by decide +kernel) rfl
theorem w617 : (Jvm.Cond.selects "TradeLink$Order" ({ cls := "TradeLink$Order", name := "left", desc := "()I" } : Jvm.MethodName) ({ cls := "TradeLink$Order", name := "left", desc := "()I" } : Jvm.MethodName)) ∈ x_Ts := x_wi 617 (by decide +kernel) rfl
theorem w618 : (Jvm.Cond.code ({ cls := "TradeLink$Order", name := "left", desc := "()I" } : Jvm.MethodName) prog_6_method_3_code (1 : Nat) (Option.some Jvm.ClassFile.FieldType.int)) ∈ x_Ts := x_wi 618 (by decide +kernel) rfl
theorem w619 : (Jvm.Cond.methodLink "TradeLink$Session" (115 : Nat) ({ cls := "TradeLink$Store", name := "keep", desc := "(IIIII)V" } : Jvm.MethodName)) ∈ x_Ts := x_wi 619 (by decide +kernel) rfl
theorem w620 : (Jvm.Cond.instanceMethod ({ cls := "TradeLink$Store", name := "keep", desc := "(IIIII)V" } : Jvm.MethodName)) ∈ x_Ts := x_wi 620 (by decide +kernel) rfl
theorem w621 : (Jvm.Cond.selects "TradeLink$Store" ({ cls := "TradeLink$Store", name := "keep", desc := "(IIIII)V" } : Jvm.MethodName) ({ cls := "TradeLink$Store", name := "keep", desc := "(IIIII)V" } : Jvm.MethodName)) ∈ x_Ts := x_wi 621 (by decide +kernel) rfl
theorem w622 : (Jvm.Cond.code ({ cls := "TradeLink$Store", name := "keep", desc := "(IIIII)V" } : Jvm.MethodName) prog_10_method_2_code (7 : Nat) (Option.none : Option Jvm.ClassFile.FieldType)) ∈ x_Ts := x_wi 622 (by decide +kernel) rfl
theorem w623 : (Jvm.Cond.methodLink "TradeLinkLaw" (82 : Nat) ({ cls := "TradeLinkLaw", name := "fill", desc := "(LTradeLink;II[J)I" } : Jvm.MethodName)) ∈ x_Ts := x_wi 623 (by decide +kernel) rfl
theorem w624 : (Jvm.Cond.static ({ cls := "TradeLinkLaw", name := "fill", desc := "(LTradeLink;II[J)I" } : Jvm.MethodName)) ∈ x_Ts := x_wi 624 (by decide +kernel) rfl
theorem w625 : (Jvm.Cond.codeWith ({ cls := "TradeLinkLaw", name := "fill", desc := "(LTradeLink;II[J)I" } : Jvm.MethodName) method_7_code (5 : Nat) (Option.some Jvm.ClassFile.FieldType.int) [((0 : Nat), (10 : Nat), (13 : Nat), (34 : Nat)), ((0 : Nat), (10 : Nat), (17 : Nat), (13 : Nat))]) ∈ x_Ts := x_wi 625 (by decide +kernel) rfl
theorem w626 : (Jvm.Cond.classLink "TradeLinkLaw" (34 : Nat) "java/util/NoSuchElementException") ∈ x_Ts := x_wi 626 (by decide +kernel) rfl
theorem w627 : (Jvm.Cond.methodLink "TradeLinkLaw" (31 : Nat) ({ cls := "TradeLink", name := "fill", desc := "(II)I" } : Jvm.MethodName)) ∈ x_Ts := x_wi 627 (by decide +kernel) rfl
theorem w628 : (Jvm.Cond.instanceMethod ({ cls := "TradeLink", name := "fill", desc := "(II)I" } : Jvm.MethodName)) ∈ x_Ts := x_wi 628 (by decide +kernel) rfl
theorem w629 : (Jvm.Cond.selects "TradeLink" ({ cls := "TradeLink", name := "fill", desc := "(II)I" } : Jvm.MethodName) ({ cls := "TradeLink", name := "fill", desc := "(II)I" } : Jvm.MethodName)) ∈ x_Ts := x_wi 629 (by decide +kernel) rfl
theorem w630 : (Jvm.Cond.code ({ cls := "TradeLink", name := "fill", desc := "(II)I" } : Jvm.MethodName) prog_1_method_8_code (4 : Nat) (Option.some Jvm.ClassFile.FieldType.int)) ∈ x_Ts := x_wi 630 (by decide +kernel) rfl
theorem w631 : (Jvm.Cond.methodLink "TradeLink" (124 : Nat) ({ cls := "TradeLink$Book", name := "findOpen", desc := "(I)LTradeLink$Order;" } : Jvm.MethodName)) ∈ x_Ts := x_wi 631 (by decide +kernel) rfl
theorem w632 : (Jvm.Cond.classLink "TradeLink" (130 : Nat) "java/util/NoSuchElementException") ∈ x_Ts := x_wi 632 (by decide +kernel) rfl
theorem w633 : (Jvm.Cond.instantiable "java/util/NoSuchElementException" (6 : Nat)) ∈ x_Ts := x_wi 633 (by decide +kernel) rfl
theorem w634 : (Jvm.Cond.castable "java/util/NoSuchElementException" "java/util/NoSuchElementException") ∈ x_Ts := x_wi 634 (by decide +kernel) rfl
theorem w635 : (Jvm.Cond.selects "java/util/NoSuchElementException" ({ cls := "java/lang/Throwable", name := "fillInStackTrace", desc := "(I)Ljava/lang/Throwable;" } : Jvm.MethodName) ({ cls := "java/lang/Throwable", name := "fillInStackTrace", desc := "(I)Ljava/lang/Throwable;" } : Jvm.MethodName)) ∈ x_Ts := x_wi 635 (by decide +kernel) rfl
theorem w641 : (Jvm.Cond.methodLink "TradeLink" (132 : Nat) ({ cls := "java/util/NoSuchElementException", name := "<init>", desc := "()V" } : Jvm.MethodName)) ∈ x_Ts := x_wi 641 (by decide +kernel) rfl
theorem w642 : (Jvm.Cond.instanceMethod ({ cls := "java/util/NoSuchElementException", name := "<init>", desc := "()V" } : Jvm.MethodName)) ∈ x_Ts := x_wi 642 (by decide +kernel) rfl
theorem w643 : (Jvm.Cond.code ({ cls := "java/util/NoSuchElementException", name := "<init>", desc := "()V" } : Jvm.MethodName) prog_20_method_1_code (1 : Nat) (Option.none : Option Jvm.ClassFile.FieldType)) ∈ x_Ts := x_wi 643 (by decide +kernel) rfl
theorem w644 : (Jvm.Cond.methodLink "java/util/NoSuchElementException" (1 : Nat) ({ cls := "java/lang/RuntimeException", name := "<init>", desc := "()V" } : Jvm.MethodName)) ∈ x_Ts := x_wi 644 (by decide +kernel) rfl
theorem w647 : (Jvm.Cond.methodLink "TradeLink" (133 : Nat) ({ cls := "TradeLink$Order", name := "left", desc := "()I" } : Jvm.MethodName)) ∈ x_Ts := x_wi 647 (by decide +kernel) rfl
theorem w648 : (Jvm.Cond.methodLink "TradeLink" (142 : Nat) ({ cls := "TradeLink$Session", name := "report", desc := "(ILTradeLink$Order;)V" } : Jvm.MethodName)) ∈ x_Ts := x_wi 648 (by decide +kernel) rfl
theorem w649 : (Jvm.Cond.methodLink "TradeLinkLaw" (89 : Nat) ({ cls := "TradeLinkLaw", name := "length", desc := "(LTradeLink;I[J)I" } : Jvm.MethodName)) ∈ x_Ts := x_wi 649 (by decide +kernel) rfl
theorem w650 : (Jvm.Cond.static ({ cls := "TradeLinkLaw", name := "length", desc := "(LTradeLink;I[J)I" } : Jvm.MethodName)) ∈ x_Ts := x_wi 650 (by decide +kernel) rfl
theorem w651 : (Jvm.Cond.codeWith ({ cls := "TradeLinkLaw", name := "length", desc := "(LTradeLink;I[J)I" } : Jvm.MethodName) method_8_code (4 : Nat) (Option.some Jvm.ClassFile.FieldType.int) [((0 : Nat), (9 : Nat), (12 : Nat), (19 : Nat))]) ∈ x_Ts := x_wi 651 (by decide +kernel) rfl
theorem w652 : (Jvm.Cond.methodLink "TradeLinkLaw" (36 : Nat) ({ cls := "TradeLink", name := "length", desc := "(I)I" } : Jvm.MethodName)) ∈ x_Ts := x_wi 652 (by decide +kernel) rfl
theorem w653 : (Jvm.Cond.instanceMethod ({ cls := "TradeLink", name := "length", desc := "(I)I" } : Jvm.MethodName)) ∈ x_Ts := x_wi 653 (by decide +kernel) rfl
theorem w654 : (Jvm.Cond.selects "TradeLink" ({ cls := "TradeLink", name := "length", desc := "(I)I" } : Jvm.MethodName) ({ cls := "TradeLink", name := "length", desc := "(I)I" } : Jvm.MethodName)) ∈ x_Ts := x_wi 654 (by decide +kernel) rfl
theorem w655 : (Jvm.Cond.code ({ cls := "TradeLink", name := "length", desc := "(I)I" } : Jvm.MethodName) prog_1_method_10_code (2 : Nat) (Option.some Jvm.ClassFile.FieldType.int)) ∈ x_Ts := x_wi 655 (by decide +kernel) rfl
theorem w656 : (Jvm.Cond.methodLink "TradeLink" (149 : Nat) ({ cls := "TradeLink$Outbox", name := "keeps", desc := "(I)Z" } : Jvm.MethodName)) ∈ x_Ts := x_wi 656 (by decide +kernel) rfl
theorem w657 : (Jvm.Cond.instanceMethod ({ cls := "TradeLink$Outbox", name := "keeps", desc := "(I)Z" } : Jvm.MethodName)) ∈ x_Ts := x_wi 657 (by decide +kernel) rfl
theorem w658 : (Jvm.Cond.selects "TradeLink$Outbox" ({ cls := "TradeLink$Outbox", name := "keeps", desc := "(I)Z" } : Jvm.MethodName) ({ cls := "TradeLink$Outbox", name := "keeps", desc := "(I)Z" } : Jvm.MethodName)) ∈ x_Ts := x_wi 658 (by decide +kernel) rfl
theorem w659 : (Jvm.Cond.code ({ cls := "TradeLink$Outbox", name := "keeps", desc := "(I)Z" } : Jvm.MethodName) prog_7_method_4_code (2 : Nat) (Option.some Jvm.ClassFile.FieldType.boolean)) ∈ x_Ts := x_wi 659 (by decide +kernel) rfl
theorem w660 : (Jvm.Cond.methodLink "TradeLink" (152 : Nat) ({ cls := "TradeLink$Outbox", name := "frame", desc := "(I)LTradeLink$Row;" } : Jvm.MethodName)) ∈ x_Ts := x_wi 660 (by decide +kernel) rfl
theorem w661 : (Jvm.Cond.instanceMethod ({ cls := "TradeLink$Outbox", name := "frame", desc := "(I)LTradeLink$Row;" } : Jvm.MethodName)) ∈ x_Ts := x_wi 661 (by decide +kernel) rfl
theorem w662 : (Jvm.Cond.selects "TradeLink$Outbox" ({ cls := "TradeLink$Outbox", name := "frame", desc := "(I)LTradeLink$Row;" } : Jvm.MethodName) ({ cls := "TradeLink$Outbox", name := "frame", desc := "(I)LTradeLink$Row;" } : Jvm.MethodName)) ∈ x_Ts := x_wi 662 (by decide +kernel) rfl
theorem w663 : (Jvm.Cond.code ({ cls := "TradeLink$Outbox", name := "frame", desc := "(I)LTradeLink$Row;" } : Jvm.MethodName) prog_7_method_5_code (2 : Nat) (Option.some (Jvm.ClassFile.FieldType.object "TradeLink$Row"))) ∈ x_Ts := x_wi 663 (by decide +kernel) rfl
theorem w664 : (Jvm.Cond.methodLink "TradeLink$Outbox" (27 : Nat) ({ cls := "TradeLink$Outbox", name := "keeps", desc := "(I)Z" } : Jvm.MethodName)) ∈ x_Ts := x_wi 664 (by decide +kernel) rfl
theorem w665 : (Jvm.Cond.methodLink "TradeLink$Outbox" (31 : Nat) ({ cls := "TradeLink$Message", name := "writeTo", desc := "(LTradeLink$Row;)V" } : Jvm.MethodName)) ∈ x_Ts := x_wi 665 (by decide +kernel) rfl
theorem w666 : (Jvm.Cond.methodLink "TradeLinkLaw" (92 : Nat) ({ cls := "TradeLinkLaw", name := "octet", desc := "(LTradeLink;II[J)I" } : Jvm.MethodName)) ∈ x_Ts := x_wi 666 (by decide +kernel) rfl
theorem w667 : (Jvm.Cond.static ({ cls := "TradeLinkLaw", name := "octet", desc := "(LTradeLink;II[J)I" } : Jvm.MethodName)) ∈ x_Ts := x_wi 667 (by decide +kernel) rfl
theorem w668 : (Jvm.Cond.codeWith ({ cls := "TradeLinkLaw", name := "octet", desc := "(LTradeLink;II[J)I" } : Jvm.MethodName) method_9_code (5 : Nat) (Option.some Jvm.ClassFile.FieldType.int) [((0 : Nat), (10 : Nat), (13 : Nat), (19 : Nat))]) ∈ x_Ts := x_wi 668 (by decide +kernel) rfl
theorem w669 : (Jvm.Cond.methodLink "TradeLinkLaw" (39 : Nat) ({ cls := "TradeLink", name := "octet", desc := "(II)I" } : Jvm.MethodName)) ∈ x_Ts := x_wi 669 (by decide +kernel) rfl
theorem w670 : (Jvm.Cond.instanceMethod ({ cls := "TradeLink", name := "octet", desc := "(II)I" } : Jvm.MethodName)) ∈ x_Ts := x_wi 670 (by decide +kernel) rfl
theorem w671 : (Jvm.Cond.selects "TradeLink" ({ cls := "TradeLink", name := "octet", desc := "(II)I" } : Jvm.MethodName) ({ cls := "TradeLink", name := "octet", desc := "(II)I" } : Jvm.MethodName)) ∈ x_Ts := x_wi 671 (by decide +kernel) rfl
theorem w672 : (Jvm.Cond.code ({ cls := "TradeLink", name := "octet", desc := "(II)I" } : Jvm.MethodName) prog_1_method_11_code (4 : Nat) (Option.some Jvm.ClassFile.FieldType.int)) ∈ x_Ts := x_wi 672 (by decide +kernel) rfl
theorem w673 : (Jvm.Cond.methodLink "TradeLinkLaw" (95 : Nat) ({ cls := "TradeLinkLaw", name := "session", desc := "(LTradeLink;I[J)I" } : Jvm.MethodName)) ∈ x_Ts := x_wi 673 (by decide +kernel) rfl
theorem w674 : (Jvm.Cond.static ({ cls := "TradeLinkLaw", name := "session", desc := "(LTradeLink;I[J)I" } : Jvm.MethodName)) ∈ x_Ts := x_wi 674 (by decide +kernel) rfl
theorem w675 : (Jvm.Cond.codeWith ({ cls := "TradeLinkLaw", name := "session", desc := "(LTradeLink;I[J)I" } : Jvm.MethodName) method_10_code (4 : Nat) (Option.some Jvm.ClassFile.FieldType.int) [((0 : Nat), (9 : Nat), (12 : Nat), (19 : Nat))]) ∈ x_Ts := x_wi 675 (by decide +kernel) rfl
theorem w676 : (Jvm.Cond.methodLink "TradeLinkLaw" (42 : Nat) ({ cls := "TradeLink", name := "session", desc := "(I)I" } : Jvm.MethodName)) ∈ x_Ts := x_wi 676 (by decide +kernel) rfl
theorem w677 : (Jvm.Cond.instanceMethod ({ cls := "TradeLink", name := "session", desc := "(I)I" } : Jvm.MethodName)) ∈ x_Ts := x_wi 677 (by decide +kernel) rfl
theorem w678 : (Jvm.Cond.selects "TradeLink" ({ cls := "TradeLink", name := "session", desc := "(I)I" } : Jvm.MethodName) ({ cls := "TradeLink", name := "session", desc := "(I)I" } : Jvm.MethodName)) ∈ x_Ts := x_wi 678 (by decide +kernel) rfl
theorem w679 : (Jvm.Cond.code ({ cls := "TradeLink", name := "session", desc := "(I)I" } : Jvm.MethodName) prog_1_method_12_code (2 : Nat) (Option.some Jvm.ClassFile.FieldType.int)) ∈ x_Ts := x_wi 679 (by decide +kernel) rfl
theorem w680 : (Jvm.Cond.methodLink "TradeLinkLaw" (98 : Nat) ({ cls := "TradeLinkLaw", name := "order", desc := "(LTradeLink;II[J)I" } : Jvm.MethodName)) ∈ x_Ts := x_wi 680 (by decide +kernel) rfl
theorem w681 : (Jvm.Cond.static ({ cls := "TradeLinkLaw", name := "order", desc := "(LTradeLink;II[J)I" } : Jvm.MethodName)) ∈ x_Ts := x_wi 681 (by decide +kernel) rfl
theorem w682 : (Jvm.Cond.codeWith ({ cls := "TradeLinkLaw", name := "order", desc := "(LTradeLink;II[J)I" } : Jvm.MethodName) method_11_code (5 : Nat) (Option.some Jvm.ClassFile.FieldType.int) [((0 : Nat), (10 : Nat), (13 : Nat), (34 : Nat)), ((0 : Nat), (10 : Nat), (17 : Nat), (19 : Nat))]) ∈ x_Ts := x_wi 682 (by decide +kernel) rfl
theorem w683 : (Jvm.Cond.methodLink "TradeLinkLaw" (45 : Nat) ({ cls := "TradeLink", name := "order", desc := "(II)I" } : Jvm.MethodName)) ∈ x_Ts := x_wi 683 (by decide +kernel) rfl
theorem w684 : (Jvm.Cond.instanceMethod ({ cls := "TradeLink", name := "order", desc := "(II)I" } : Jvm.MethodName)) ∈ x_Ts := x_wi 684 (by decide +kernel) rfl
theorem w685 : (Jvm.Cond.selects "TradeLink" ({ cls := "TradeLink", name := "order", desc := "(II)I" } : Jvm.MethodName) ({ cls := "TradeLink", name := "order", desc := "(II)I" } : Jvm.MethodName)) ∈ x_Ts := x_wi 685 (by decide +kernel) rfl
theorem w686 : (Jvm.Cond.code ({ cls := "TradeLink", name := "order", desc := "(II)I" } : Jvm.MethodName) prog_1_method_13_code (4 : Nat) (Option.some Jvm.ClassFile.FieldType.int)) ∈ x_Ts := x_wi 686 (by decide +kernel) rfl
theorem w687 : (Jvm.Cond.methodLink "TradeLink" (169 : Nat) ({ cls := "TradeLink$Book", name := "find", desc := "(I)LTradeLink$Order;" } : Jvm.MethodName)) ∈ x_Ts := x_wi 687 (by decide +kernel) rfl
theorem w688 : (Jvm.Cond.methodLink "TradeLink" (178 : Nat) ({ cls := "TradeLink$Order", name := "state", desc := "()I" } : Jvm.MethodName)) ∈ x_Ts := x_wi 688 (by decide +kernel) rfl
theorem w689 : (Jvm.Cond.classLink "TradeLinkLaw" (49 : Nat) "TradeLinkModel") ∈ x_Ts := x_wi 689 (by decide +kernel) rfl
theorem w690 : (Jvm.Cond.instantiable "TradeLinkModel" (39 : Nat)) ∈ x_Ts := x_wi 690 (by decide +kernel) rfl
theorem w691 : (Jvm.Cond.methodLink "TradeLinkLaw" (51 : Nat) ({ cls := "TradeLinkModel", name := "<init>", desc := "()V" } : Jvm.MethodName)) ∈ x_Ts := x_wi 691 (by decide +kernel) rfl
theorem w692 : (Jvm.Cond.instanceMethod ({ cls := "TradeLinkModel", name := "<init>", desc := "()V" } : Jvm.MethodName)) ∈ x_Ts := x_wi 692 (by decide +kernel) rfl
theorem w693 : (Jvm.Cond.code ({ cls := "TradeLinkModel", name := "<init>", desc := "()V" } : Jvm.MethodName) prog_12_method_1_code (1 : Nat) (Option.none : Option Jvm.ClassFile.FieldType)) ∈ x_Ts := x_wi 693 (by decide +kernel) rfl
theorem w694 : (Jvm.Cond.methodLink "TradeLinkModel" (1 : Nat) ({ cls := "java/lang/Object", name := "<init>", desc := "()V" } : Jvm.MethodName)) ∈ x_Ts := x_wi 694 (by decide +kernel) rfl
theorem w695 : (Jvm.Cond.fieldLink "TradeLinkModel" (60 : Nat) "TradeLinkModel" "thrown" "I") ∈ x_Ts := x_wi 695 (by decide +kernel) rfl
theorem w696 : (Jvm.Cond.fieldLink "TradeLinkModel" (146 : Nat) "TradeLinkModel" "given" "Z") ∈ x_Ts := x_wi 696 (by decide +kernel) rfl
theorem w697 : (Jvm.Cond.fieldLink "TradeLinkModel" (67 : Nat) "TradeLinkModel" "size" "I") ∈ x_Ts := x_wi 697 (by decide +kernel) rfl
theorem w698 : (Jvm.Cond.fieldLink "TradeLinkModel" (7 : Nat) "TradeLinkModel" "frame" "[I") ∈ x_Ts := x_wi 698 (by decide +kernel) rfl
theorem w699 : (Jvm.Cond.fieldLink "TradeLinkModel" (149 : Nat) "TradeLinkModel" "fields" "I") ∈ x_Ts := x_wi 699 (by decide +kernel) rfl
theorem w700 : (Jvm.Cond.fieldLink "TradeLinkModel" (13 : Nat) "TradeLinkModel" "tag" "[I") ∈ x_Ts := x_wi 700 (by decide +kernel) rfl
theorem w701 : (Jvm.Cond.fieldLink "TradeLinkModel" (16 : Nat) "TradeLinkModel" "from" "[I") ∈ x_Ts := x_wi 701 (by decide +kernel) rfl
theorem w702 : (Jvm.Cond.fieldLink "TradeLinkModel" (19 : Nat) "TradeLinkModel" "to" "[I") ∈ x_Ts := x_wi 702 (by decide +kernel) rfl
theorem w703 : (Jvm.Cond.fieldLink "TradeLinkModel" (168 : Nat) "TradeLinkModel" "type" "I") ∈ x_Ts := x_wi 703 (by decide +kernel) rfl
theorem w704 : (Jvm.Cond.fieldLink "TradeLinkModel" (171 : Nat) "TradeLinkModel" "number" "I") ∈ x_Ts := x_wi 704 (by decide +kernel) rfl
theorem w705 : (Jvm.Cond.fieldLink "TradeLinkModel" (177 : Nat) "TradeLinkModel" "a" "I") ∈ x_Ts := x_wi 705 (by decide +kernel) rfl
theorem w706 : (Jvm.Cond.fieldLink "TradeLinkModel" (180 : Nat) "TradeLinkModel" "b" "I") ∈ x_Ts := x_wi 706 (by decide +kernel) rfl
theorem w707 : (Jvm.Cond.fieldLink "TradeLinkModel" (183 : Nat) "TradeLinkModel" "c" "I") ∈ x_Ts := x_wi 707 (by decide +kernel) rfl
theorem w708 : (Jvm.Cond.fieldLink "TradeLinkModel" (174 : Nat) "TradeLinkModel" "duplicate" "Z") ∈ x_Ts := x_wi 708 (by decide +kernel) rfl
theorem w709 : (Jvm.Cond.fieldLink "TradeLinkModel" (186 : Nat) "TradeLinkModel" "some" "Z") ∈ x_Ts := x_wi 709 (by decide +kernel) rfl
theorem w710 : (Jvm.Cond.fieldLink "TradeLinkModel" (70 : Nat) "TradeLinkModel" "sent" "I") ∈ x_Ts := x_wi 710 (by decide +kernel) rfl
theorem w711 : (Jvm.Cond.fieldLink "TradeLinkModel" (22 : Nat) "TradeLinkModel" "out" "[I") ∈ x_Ts := x_wi 711 (by decide +kernel) rfl
theorem w712 : (Jvm.Cond.fieldLink "TradeLinkModel" (25 : Nat) "TradeLinkModel" "lengths" "[I") ∈ x_Ts := x_wi 712 (by decide +kernel) rfl
theorem w713 : (Jvm.Cond.fieldLink "TradeLinkModel" (73 : Nat) "TradeLinkModel" "at" "I") ∈ x_Ts := x_wi 713 (by decide +kernel) rfl
theorem w714 : (Jvm.Cond.fieldLink "TradeLinkModel" (118 : Nat) "TradeLinkModel" "in" "Z") ∈ x_Ts := x_wi 714 (by decide +kernel) rfl
theorem w715 : (Jvm.Cond.fieldLink "TradeLinkModel" (28 : Nat) "TradeLinkModel" "awaited" "I") ∈ x_Ts := x_wi 715 (by decide +kernel) rfl
theorem w716 : (Jvm.Cond.fieldLink "TradeLinkModel" (32 : Nat) "TradeLinkModel" "next" "I") ∈ x_Ts := x_wi 716 (by decide +kernel) rfl
theorem w717 : (Jvm.Cond.fieldLink "TradeLinkModel" (112 : Nat) "TradeLinkModel" "time" "I") ∈ x_Ts := x_wi 717 (by decide +kernel) rfl
theorem w718 : (Jvm.Cond.fieldLink "TradeLinkModel" (217 : Nat) "TradeLinkModel" "heard" "I") ∈ x_Ts := x_wi 718 (by decide +kernel) rfl
theorem w719 : (Jvm.Cond.fieldLink "TradeLinkModel" (115 : Nat) "TradeLinkModel" "said" "I") ∈ x_Ts := x_wi 719 (by decide +kernel) rfl
theorem w720 : (Jvm.Cond.fieldLink "TradeLinkModel" (131 : Nat) "TradeLinkModel" "asked" "I") ∈ x_Ts := x_wi 720 (by decide +kernel) rfl
theorem w721 : (Jvm.Cond.fieldLink "TradeLinkModel" (128 : Nat) "TradeLinkModel" "missing" "I") ∈ x_Ts := x_wi 721 (by decide +kernel) rfl
theorem w722 : (Jvm.Cond.fieldLink "TradeLinkModel" (35 : Nat) "TradeLinkModel" "report" "[Z") ∈ x_Ts := x_wi 722 (by decide +kernel) rfl
theorem w723 : (Jvm.Cond.fieldLink "TradeLinkModel" (39 : Nat) "TradeLinkModel" "says" "[I") ∈ x_Ts := x_wi 723 (by decide +kernel) rfl
theorem w724 : (Jvm.Cond.fieldLink "TradeLinkModel" (192 : Nat) "TradeLinkModel" "orders" "I") ∈ x_Ts := x_wi 724 (by decide +kernel) rfl
theorem w725 : (Jvm.Cond.fieldLink "TradeLinkModel" (42 : Nat) "TradeLinkModel" "id" "[I") ∈ x_Ts := x_wi 725 (by decide +kernel) rfl
theorem w726 : (Jvm.Cond.fieldLink "TradeLinkModel" (45 : Nat) "TradeLinkModel" "side" "[I") ∈ x_Ts := x_wi 726 (by decide +kernel) rfl
theorem w727 : (Jvm.Cond.fieldLink "TradeLinkModel" (48 : Nat) "TradeLinkModel" "quantity" "[I") ∈ x_Ts := x_wi 727 (by decide +kernel) rfl
theorem w728 : (Jvm.Cond.fieldLink "TradeLinkModel" (51 : Nat) "TradeLinkModel" "filled" "[I") ∈ x_Ts := x_wi 728 (by decide +kernel) rfl
theorem w729 : (Jvm.Cond.fieldLink "TradeLinkModel" (54 : Nat) "TradeLinkModel" "cancelled" "[Z") ∈ x_Ts := x_wi 729 (by decide +kernel) rfl
theorem w730 : (Jvm.Cond.fieldLink "TradeLinkModel" (189 : Nat) "TradeLinkModel" "done" "I") ∈ x_Ts := x_wi 730 (by decide +kernel) rfl
theorem w731 : (Jvm.Cond.fieldLink "TradeLinkModel" (204 : Nat) "TradeLinkModel" "messages" "I") ∈ x_Ts := x_wi 731 (by decide +kernel) rfl
theorem w732 : (Jvm.Cond.fieldLink "TradeLinkModel" (57 : Nat) "TradeLinkModel" "used" "[I") ∈ x_Ts := x_wi 732 (by decide +kernel) rfl
theorem w733 : (Jvm.Cond.fieldLink "TradeLinkModel" (63 : Nat) "TradeLinkModel" "forPeer" "Z") ∈ x_Ts := x_wi 733 (by decide +kernel) rfl
theorem w813 : (Jvm.Cond.arrayClass Jvm.ClassFile.FieldType.boolean) ∈ x_Ts := x_wi 813 (by decide +kernel) rfl
theorem w814 : (Jvm.Cond.methodLink "TradeLinkLaw" (58 : Nat) ({ cls := "TradeLinkModel", name := "thrown", desc := "()I" } : Jvm.MethodName)) ∈ x_Ts := x_wi 814 (by decide +kernel) rfl
theorem w815 : (Jvm.Cond.instanceMethod ({ cls := "TradeLinkModel", name := "thrown", desc := "()I" } : Jvm.MethodName)) ∈ x_Ts := x_wi 815 (by decide +kernel) rfl
theorem w816 : (Jvm.Cond.selects "TradeLinkModel" ({ cls := "TradeLinkModel", name := "thrown", desc := "()I" } : Jvm.MethodName) ({ cls := "TradeLinkModel", name := "thrown", desc := "()I" } : Jvm.MethodName)) ∈ x_Ts := x_wi 816 (by decide +kernel) rfl
theorem w817 : (Jvm.Cond.code ({ cls := "TradeLinkModel", name := "thrown", desc := "()I" } : Jvm.MethodName) prog_12_method_2_code (1 : Nat) (Option.some Jvm.ClassFile.FieldType.int)) ∈ x_Ts := x_wi 817 (by decide +kernel) rfl
theorem w818 : (Jvm.Cond.methodLink "TradeLinkLaw" (57 : Nat) ({ cls := "TradeLinkModel", name := "give", desc := "(IIZIII)I" } : Jvm.MethodName)) ∈ x_Ts := x_wi 818 (by decide +kernel) rfl
theorem w819 : (Jvm.Cond.instanceMethod ({ cls := "TradeLinkModel", name := "give", desc := "(IIZIII)I" } : Jvm.MethodName)) ∈ x_Ts := x_wi 819 (by decide +kernel) rfl
theorem w820 : (Jvm.Cond.selects "TradeLinkModel" ({ cls := "TradeLinkModel", name := "give", desc := "(IIZIII)I" } : Jvm.MethodName) ({ cls := "TradeLinkModel", name := "give", desc := "(IIZIII)I" } : Jvm.MethodName)) ∈ x_Ts := x_wi 820 (by decide +kernel) rfl
theorem w821 : (Jvm.Cond.code ({ cls := "TradeLinkModel", name := "give", desc := "(IIZIII)I" } : Jvm.MethodName) prog_12_method_21_code (7 : Nat) (Option.some Jvm.ClassFile.FieldType.int)) ∈ x_Ts := x_wi 821 (by decide +kernel) rfl
theorem w822 : (Jvm.Cond.methodLink "TradeLinkModel" (134 : Nat) ({ cls := "TradeLinkModel", name := "isType", desc := "(I)Z" } : Jvm.MethodName)) ∈ x_Ts := x_wi 822 (by decide +kernel) rfl
theorem w823 : (Jvm.Cond.static ({ cls := "TradeLinkModel", name := "isType", desc := "(I)Z" } : Jvm.MethodName)) ∈ x_Ts := x_wi 823 (by decide +kernel) rfl
theorem w824 : (Jvm.Cond.code ({ cls := "TradeLinkModel", name := "isType", desc := "(I)Z" } : Jvm.MethodName) prog_12_method_20_code (1 : Nat) (Option.some Jvm.ClassFile.FieldType.boolean)) ∈ x_Ts := x_wi 824 (by decide +kernel) rfl
theorem w825 : (Jvm.Cond.constant "TradeLinkModel" (138 : Nat) (999999 : Int32)) ∈ x_Ts := x_wi 825 (by decide +kernel) rfl
theorem w826 : (Jvm.Cond.methodLink "TradeLinkModel" (139 : Nat) ({ cls := "TradeLinkModel", name := "within", desc := "(III)Z" } : Jvm.MethodName)) ∈ x_Ts := x_wi 826 (by decide +kernel) rfl
theorem w827 : (Jvm.Cond.static ({ cls := "TradeLinkModel", name := "within", desc := "(III)Z" } : Jvm.MethodName)) ∈ x_Ts := x_wi 827 (by decide +kernel) rfl
theorem w828 : (Jvm.Cond.code ({ cls := "TradeLinkModel", name := "within", desc := "(III)Z" } : Jvm.MethodName) prog_12_method_4_code (3 : Nat) (Option.some Jvm.ClassFile.FieldType.boolean)) ∈ x_Ts := x_wi 828 (by decide +kernel) rfl
theorem w829 : (Jvm.Cond.methodLink "TradeLinkModel" (143 : Nat) ({ cls := "TradeLinkModel", name := "fail", desc := "(I)I" } : Jvm.MethodName)) ∈ x_Ts := x_wi 829 (by decide +kernel) rfl
theorem w831 : (Jvm.Cond.instanceMethod ({ cls := "TradeLinkModel", name := "fail", desc := "(I)I" } : Jvm.MethodName)) ∈ x_Ts := x_wi 831 (by decide +kernel) rfl
theorem w832 : (Jvm.Cond.code ({ cls := "TradeLinkModel", name := "fail", desc := "(I)I" } : Jvm.MethodName) prog_12_method_3_code (2 : Nat) (Option.some Jvm.ClassFile.FieldType.int)) ∈ x_Ts := x_wi 832 (by decide +kernel) rfl
theorem w833 : (Jvm.Cond.methodLink "TradeLinkModel" (108 : Nat) ({ cls := "TradeLinkModel", name := "make", desc := "(IIZIIII)V" } : Jvm.MethodName)) ∈ x_Ts := x_wi 833 (by decide +kernel) rfl
theorem w835 : (Jvm.Cond.instanceMethod ({ cls := "TradeLinkModel", name := "make", desc := "(IIZIIII)V" } : Jvm.MethodName)) ∈ x_Ts := x_wi 835 (by decide +kernel) rfl
theorem w836 : (Jvm.Cond.code ({ cls := "TradeLinkModel", name := "make", desc := "(IIZIIII)V" } : Jvm.MethodName) prog_12_method_14_code (11 : Nat) (Option.none : Option Jvm.ClassFile.FieldType)) ∈ x_Ts := x_wi 836 (by decide +kernel) rfl
theorem w837 : (Jvm.Cond.methodLink "TradeLinkModel" (94 : Nat) ({ cls := "TradeLinkModel", name := "letter", desc := "(II)V" } : Jvm.MethodName)) ∈ x_Ts := x_wi 837 (by decide +kernel) rfl
theorem w839 : (Jvm.Cond.instanceMethod ({ cls := "TradeLinkModel", name := "letter", desc := "(II)V" } : Jvm.MethodName)) ∈ x_Ts := x_wi 839 (by decide +kernel) rfl
theorem w840 : (Jvm.Cond.code ({ cls := "TradeLinkModel", name := "letter", desc := "(II)V" } : Jvm.MethodName) prog_12_method_8_code (3 : Nat) (Option.none : Option Jvm.ClassFile.FieldType)) ∈ x_Ts := x_wi 840 (by decide +kernel) rfl
theorem w841 : (Jvm.Cond.methodLink "TradeLinkModel" (80 : Nat) ({ cls := "TradeLinkModel", name := "digits", desc := "(I)V" } : Jvm.MethodName)) ∈ x_Ts := x_wi 841 (by decide +kernel) rfl
theorem w843 : (Jvm.Cond.instanceMethod ({ cls := "TradeLinkModel", name := "digits", desc := "(I)V" } : Jvm.MethodName)) ∈ x_Ts := x_wi 843 (by decide +kernel) rfl
theorem w844 : (Jvm.Cond.code ({ cls := "TradeLinkModel", name := "digits", desc := "(I)V" } : Jvm.MethodName) prog_12_method_6_code (4 : Nat) (Option.none : Option Jvm.ClassFile.FieldType)) ∈ x_Ts := x_wi 844 (by decide +kernel) rfl
theorem w845 : (Jvm.Cond.methodLink "TradeLinkModel" (76 : Nat) ({ cls := "TradeLinkModel", name := "put", desc := "(I)V" } : Jvm.MethodName)) ∈ x_Ts := x_wi 845 (by decide +kernel) rfl
theorem w847 : (Jvm.Cond.instanceMethod ({ cls := "TradeLinkModel", name := "put", desc := "(I)V" } : Jvm.MethodName)) ∈ x_Ts := x_wi 847 (by decide +kernel) rfl
theorem w848 : (Jvm.Cond.code ({ cls := "TradeLinkModel", name := "put", desc := "(I)V" } : Jvm.MethodName) prog_12_method_5_code (2 : Nat) (Option.none : Option Jvm.ClassFile.FieldType)) ∈ x_Ts := x_wi 848 (by decide +kernel) rfl
theorem w849 : (Jvm.Cond.methodLink "TradeLinkModel" (91 : Nat) ({ cls := "TradeLinkModel", name := "room", desc := "(II)I" } : Jvm.MethodName)) ∈ x_Ts := x_wi 849 (by decide +kernel) rfl
theorem w850 : (Jvm.Cond.static ({ cls := "TradeLinkModel", name := "room", desc := "(II)I" } : Jvm.MethodName)) ∈ x_Ts := x_wi 850 (by decide +kernel) rfl
theorem w851 : (Jvm.Cond.code ({ cls := "TradeLinkModel", name := "room", desc := "(II)I" } : Jvm.MethodName) prog_12_method_11_code (2 : Nat) (Option.some Jvm.ClassFile.FieldType.int)) ∈ x_Ts := x_wi 851 (by decide +kernel) rfl
theorem w852 : (Jvm.Cond.methodLink "TradeLinkModel" (83 : Nat) ({ cls := "TradeLinkModel", name := "places", desc := "(I)I" } : Jvm.MethodName)) ∈ x_Ts := x_wi 852 (by decide +kernel) rfl
theorem w853 : (Jvm.Cond.static ({ cls := "TradeLinkModel", name := "places", desc := "(I)I" } : Jvm.MethodName)) ∈ x_Ts := x_wi 853 (by decide +kernel) rfl
theorem w854 : (Jvm.Cond.code ({ cls := "TradeLinkModel", name := "places", desc := "(I)I" } : Jvm.MethodName) prog_12_method_9_code (3 : Nat) (Option.some Jvm.ClassFile.FieldType.int)) ∈ x_Ts := x_wi 854 (by decide +kernel) rfl
theorem w855 : (Jvm.Cond.methodLink "TradeLinkModel" (101 : Nat) ({ cls := "TradeLinkModel", name := "body", desc := "(IIIIIZ)I" } : Jvm.MethodName)) ∈ x_Ts := x_wi 855 (by decide +kernel) rfl
theorem w857 : (Jvm.Cond.instanceMethod ({ cls := "TradeLinkModel", name := "body", desc := "(IIIIIZ)I" } : Jvm.MethodName)) ∈ x_Ts := x_wi 857 (by decide +kernel) rfl
theorem w858 : (Jvm.Cond.code ({ cls := "TradeLinkModel", name := "body", desc := "(IIIIIZ)I" } : Jvm.MethodName) prog_12_method_12_code (12 : Nat) (Option.some Jvm.ClassFile.FieldType.int)) ∈ x_Ts := x_wi 858 (by decide +kernel) rfl
theorem w859 : (Jvm.Cond.methodLink "TradeLinkModel" (87 : Nat) ({ cls := "TradeLinkModel", name := "name", desc := "(II)I" } : Jvm.MethodName)) ∈ x_Ts := x_wi 859 (by decide +kernel) rfl
theorem w860 : (Jvm.Cond.static ({ cls := "TradeLinkModel", name := "name", desc := "(II)I" } : Jvm.MethodName)) ∈ x_Ts := x_wi 860 (by decide +kernel) rfl
theorem w861 : (Jvm.Cond.code ({ cls := "TradeLinkModel", name := "name", desc := "(II)I" } : Jvm.MethodName) prog_12_method_13_code (2 : Nat) (Option.some Jvm.ClassFile.FieldType.int)) ∈ x_Ts := x_wi 861 (by decide +kernel) rfl
theorem w862 : (Jvm.Cond.methodLink "TradeLinkModel" (98 : Nat) ({ cls := "TradeLinkModel", name := "field", desc := "(II)V" } : Jvm.MethodName)) ∈ x_Ts := x_wi 862 (by decide +kernel) rfl
theorem w864 : (Jvm.Cond.instanceMethod ({ cls := "TradeLinkModel", name := "field", desc := "(II)V" } : Jvm.MethodName)) ∈ x_Ts := x_wi 864 (by decide +kernel) rfl
theorem w865 : (Jvm.Cond.code ({ cls := "TradeLinkModel", name := "field", desc := "(II)V" } : Jvm.MethodName) prog_12_method_7_code (3 : Nat) (Option.none : Option Jvm.ClassFile.FieldType)) ∈ x_Ts := x_wi 865 (by decide +kernel) rfl
theorem w866 : (Jvm.Cond.methodLink "TradeLinkModel" (105 : Nat) ({ cls := "TradeLinkModel", name := "byteAt", desc := "(I)I" } : Jvm.MethodName)) ∈ x_Ts := x_wi 866 (by decide +kernel) rfl
theorem w868 : (Jvm.Cond.instanceMethod ({ cls := "TradeLinkModel", name := "byteAt", desc := "(I)I" } : Jvm.MethodName)) ∈ x_Ts := x_wi 868 (by decide +kernel) rfl
theorem w869 : (Jvm.Cond.code ({ cls := "TradeLinkModel", name := "byteAt", desc := "(I)I" } : Jvm.MethodName) prog_12_method_10_code (2 : Nat) (Option.some Jvm.ClassFile.FieldType.int)) ∈ x_Ts := x_wi 869 (by decide +kernel) rfl
theorem w870 : (Jvm.Cond.methodLink "TradeLinkLaw" (64 : Nat) ({ cls := "TradeLinkModel", name := "spoil", desc := "(II)I" } : Jvm.MethodName)) ∈ x_Ts := x_wi 870 (by decide +kernel) rfl
theorem w871 : (Jvm.Cond.instanceMethod ({ cls := "TradeLinkModel", name := "spoil", desc := "(II)I" } : Jvm.MethodName)) ∈ x_Ts := x_wi 871 (by decide +kernel) rfl
theorem w872 : (Jvm.Cond.selects "TradeLinkModel" ({ cls := "TradeLinkModel", name := "spoil", desc := "(II)I" } : Jvm.MethodName) ({ cls := "TradeLinkModel", name := "spoil", desc := "(II)I" } : Jvm.MethodName)) ∈ x_Ts := x_wi 872 (by decide +kernel) rfl
theorem w873 : (Jvm.Cond.code ({ cls := "TradeLinkModel", name := "spoil", desc := "(II)I" } : Jvm.MethodName) prog_12_method_22_code (3 : Nat) (Option.some Jvm.ClassFile.FieldType.int)) ∈ x_Ts := x_wi 873 (by decide +kernel) rfl
theorem w874 : (Jvm.Cond.methodLink "TradeLinkLaw" (68 : Nat) ({ cls := "TradeLinkModel", name := "add", desc := "(I)I" } : Jvm.MethodName)) ∈ x_Ts := x_wi 874 (by decide +kernel) rfl
theorem w875 : (Jvm.Cond.instanceMethod ({ cls := "TradeLinkModel", name := "add", desc := "(I)I" } : Jvm.MethodName)) ∈ x_Ts := x_wi 875 (by decide +kernel) rfl
theorem w876 : (Jvm.Cond.selects "TradeLinkModel" ({ cls := "TradeLinkModel", name := "add", desc := "(I)I" } : Jvm.MethodName) ({ cls := "TradeLinkModel", name := "add", desc := "(I)I" } : Jvm.MethodName)) ∈ x_Ts := x_wi 876 (by decide +kernel) rfl
theorem w877 : (Jvm.Cond.code ({ cls := "TradeLinkModel", name := "add", desc := "(I)I" } : Jvm.MethodName) prog_12_method_23_code (3 : Nat) (Option.some Jvm.ClassFile.FieldType.int)) ∈ x_Ts := x_wi 877 (by decide +kernel) rfl
theorem w878 : (Jvm.Cond.methodLink "TradeLinkLaw" (72 : Nat) ({ cls := "TradeLinkModel", name := "take", desc := "()I" } : Jvm.MethodName)) ∈ x_Ts := x_wi 878 (by decide +kernel) rfl
theorem w879 : (Jvm.Cond.instanceMethod ({ cls := "TradeLinkModel", name := "take", desc := "()I" } : Jvm.MethodName)) ∈ x_Ts := x_wi 879 (by decide +kernel) rfl
theorem w880 : (Jvm.Cond.selects "TradeLinkModel" ({ cls := "TradeLinkModel", name := "take", desc := "()I" } : Jvm.MethodName) ({ cls := "TradeLinkModel", name := "take", desc := "()I" } : Jvm.MethodName)) ∈ x_Ts := x_wi 880 (by decide +kernel) rfl
theorem w881 : (Jvm.Cond.code ({ cls := "TradeLinkModel", name := "take", desc := "()I" } : Jvm.MethodName) prog_12_method_38_code (2 : Nat) (Option.some Jvm.ClassFile.FieldType.int)) ∈ x_Ts := x_wi 881 (by decide +kernel) rfl
theorem w882 : (Jvm.Cond.methodLink "TradeLinkModel" (232 : Nat) ({ cls := "TradeLinkModel", name := "taken", desc := "()I" } : Jvm.MethodName)) ∈ x_Ts := x_wi 882 (by decide +kernel) rfl
theorem w884 : (Jvm.Cond.instanceMethod ({ cls := "TradeLinkModel", name := "taken", desc := "()I" } : Jvm.MethodName)) ∈ x_Ts := x_wi 884 (by decide +kernel) rfl
theorem w885 : (Jvm.Cond.code ({ cls := "TradeLinkModel", name := "taken", desc := "()I" } : Jvm.MethodName) prog_12_method_37_code (1 : Nat) (Option.some Jvm.ClassFile.FieldType.int)) ∈ x_Ts := x_wi 885 (by decide +kernel) rfl
theorem w886 : (Jvm.Cond.methodLink "TradeLinkModel" (214 : Nat) ({ cls := "TradeLinkModel", name := "good", desc := "()Z" } : Jvm.MethodName)) ∈ x_Ts := x_wi 886 (by decide +kernel) rfl
theorem w888 : (Jvm.Cond.instanceMethod ({ cls := "TradeLinkModel", name := "good", desc := "()Z" } : Jvm.MethodName)) ∈ x_Ts := x_wi 888 (by decide +kernel) rfl
theorem w889 : (Jvm.Cond.code ({ cls := "TradeLinkModel", name := "good", desc := "()Z" } : Jvm.MethodName) prog_12_method_29_code (6 : Nat) (Option.some Jvm.ClassFile.FieldType.boolean)) ∈ x_Ts := x_wi 889 (by decide +kernel) rfl
theorem w890 : (Jvm.Cond.methodLink "TradeLinkModel" (158 : Nat) ({ cls := "TradeLinkModel", name := "cut", desc := "()Z" } : Jvm.MethodName)) ∈ x_Ts := x_wi 890 (by decide +kernel) rfl
theorem w892 : (Jvm.Cond.instanceMethod ({ cls := "TradeLinkModel", name := "cut", desc := "()Z" } : Jvm.MethodName)) ∈ x_Ts := x_wi 892 (by decide +kernel) rfl
theorem w893 : (Jvm.Cond.code ({ cls := "TradeLinkModel", name := "cut", desc := "()Z" } : Jvm.MethodName) prog_12_method_25_code (5 : Nat) (Option.some Jvm.ClassFile.FieldType.boolean)) ∈ x_Ts := x_wi 893 (by decide +kernel) rfl
theorem w894 : (Jvm.Cond.methodLink "TradeLinkModel" (152 : Nat) ({ cls := "TradeLinkModel", name := "digit", desc := "(I)Z" } : Jvm.MethodName)) ∈ x_Ts := x_wi 894 (by decide +kernel) rfl
theorem w895 : (Jvm.Cond.static ({ cls := "TradeLinkModel", name := "digit", desc := "(I)Z" } : Jvm.MethodName)) ∈ x_Ts := x_wi 895 (by decide +kernel) rfl
theorem w896 : (Jvm.Cond.code ({ cls := "TradeLinkModel", name := "digit", desc := "(I)Z" } : Jvm.MethodName) prog_12_method_24_code (1 : Nat) (Option.some Jvm.ClassFile.FieldType.boolean)) ∈ x_Ts := x_wi 896 (by decide +kernel) rfl
theorem w897 : (Jvm.Cond.methodLink "TradeLinkModel" (162 : Nat) ({ cls := "TradeLinkModel", name := "closed", desc := "()Z" } : Jvm.MethodName)) ∈ x_Ts := x_wi 897 (by decide +kernel) rfl
theorem w899 : (Jvm.Cond.instanceMethod ({ cls := "TradeLinkModel", name := "closed", desc := "()Z" } : Jvm.MethodName)) ∈ x_Ts := x_wi 899 (by decide +kernel) rfl
theorem w900 : (Jvm.Cond.code ({ cls := "TradeLinkModel", name := "closed", desc := "()Z" } : Jvm.MethodName) prog_12_method_28_code (5 : Nat) (Option.some Jvm.ClassFile.FieldType.boolean)) ∈ x_Ts := x_wi 900 (by decide +kernel) rfl
theorem w901 : (Jvm.Cond.methodLink "TradeLinkModel" (155 : Nat) ({ cls := "TradeLinkModel", name := "numberAt", desc := "(II)I" } : Jvm.MethodName)) ∈ x_Ts := x_wi 901 (by decide +kernel) rfl
theorem w903 : (Jvm.Cond.instanceMethod ({ cls := "TradeLinkModel", name := "numberAt", desc := "(II)I" } : Jvm.MethodName)) ∈ x_Ts := x_wi 903 (by decide +kernel) rfl
theorem w904 : (Jvm.Cond.code ({ cls := "TradeLinkModel", name := "numberAt", desc := "(II)I" } : Jvm.MethodName) prog_12_method_26_code (5 : Nat) (Option.some Jvm.ClassFile.FieldType.int)) ∈ x_Ts := x_wi 904 (by decide +kernel) rfl
theorem w905 : (Jvm.Cond.methodLink "TradeLinkModel" (165 : Nat) ({ cls := "TradeLinkModel", name := "letterAt", desc := "(II)I" } : Jvm.MethodName)) ∈ x_Ts := x_wi 905 (by decide +kernel) rfl
theorem w907 : (Jvm.Cond.instanceMethod ({ cls := "TradeLinkModel", name := "letterAt", desc := "(II)I" } : Jvm.MethodName)) ∈ x_Ts := x_wi 907 (by decide +kernel) rfl
theorem w908 : (Jvm.Cond.code ({ cls := "TradeLinkModel", name := "letterAt", desc := "(II)I" } : Jvm.MethodName) prog_12_method_27_code (3 : Nat) (Option.some Jvm.ClassFile.FieldType.int)) ∈ x_Ts := x_wi 908 (by decide +kernel) rfl
theorem w909 : (Jvm.Cond.methodLink "TradeLinkModel" (220 : Nat) ({ cls := "TradeLinkModel", name := "leave", desc := "()V" } : Jvm.MethodName)) ∈ x_Ts := x_wi 909 (by decide +kernel) rfl
theorem w911 : (Jvm.Cond.instanceMethod ({ cls := "TradeLinkModel", name := "leave", desc := "()V" } : Jvm.MethodName)) ∈ x_Ts := x_wi 911 (by decide +kernel) rfl
theorem w912 : (Jvm.Cond.code ({ cls := "TradeLinkModel", name := "leave", desc := "()V" } : Jvm.MethodName) prog_12_method_17_code (1 : Nat) (Option.none : Option Jvm.ClassFile.FieldType)) ∈ x_Ts := x_wi 912 (by decide +kernel) rfl
theorem w913 : (Jvm.Cond.methodLink "TradeLinkModel" (124 : Nat) ({ cls := "TradeLinkModel", name := "send", desc := "(IIIII)V" } : Jvm.MethodName)) ∈ x_Ts := x_wi 913 (by decide +kernel) rfl
theorem w915 : (Jvm.Cond.instanceMethod ({ cls := "TradeLinkModel", name := "send", desc := "(IIIII)V" } : Jvm.MethodName)) ∈ x_Ts := x_wi 915 (by decide +kernel) rfl
theorem w916 : (Jvm.Cond.code ({ cls := "TradeLinkModel", name := "send", desc := "(IIIII)V" } : Jvm.MethodName) prog_12_method_16_code (6 : Nat) (Option.none : Option Jvm.ClassFile.FieldType)) ∈ x_Ts := x_wi 916 (by decide +kernel) rfl
theorem w917 : (Jvm.Cond.methodLink "TradeLinkModel" (121 : Nat) ({ cls := "TradeLinkModel", name := "goes", desc := "(IIZIIII)V" } : Jvm.MethodName)) ∈ x_Ts := x_wi 917 (by decide +kernel) rfl
theorem w919 : (Jvm.Cond.instanceMethod ({ cls := "TradeLinkModel", name := "goes", desc := "(IIZIIII)V" } : Jvm.MethodName)) ∈ x_Ts := x_wi 919 (by decide +kernel) rfl
theorem w920 : (Jvm.Cond.code ({ cls := "TradeLinkModel", name := "goes", desc := "(IIZIIII)V" } : Jvm.MethodName) prog_12_method_15_code (8 : Nat) (Option.none : Option Jvm.ClassFile.FieldType)) ∈ x_Ts := x_wi 920 (by decide +kernel) rfl
theorem w921 : (Jvm.Cond.methodLink "TradeLinkModel" (223 : Nat) ({ cls := "TradeLinkModel", name := "answer", desc := "(II)V" } : Jvm.MethodName)) ∈ x_Ts := x_wi 921 (by decide +kernel) rfl
theorem w923 : (Jvm.Cond.instanceMethod ({ cls := "TradeLinkModel", name := "answer", desc := "(II)V" } : Jvm.MethodName)) ∈ x_Ts := x_wi 923 (by decide +kernel) rfl
theorem w924 : (Jvm.Cond.code ({ cls := "TradeLinkModel", name := "answer", desc := "(II)V" } : Jvm.MethodName) prog_12_method_19_code (6 : Nat) (Option.none : Option Jvm.ClassFile.FieldType)) ∈ x_Ts := x_wi 924 (by decide +kernel) rfl
theorem w925 : (Jvm.Cond.methodLink "TradeLinkModel" (226 : Nat) ({ cls := "TradeLinkModel", name := "ask", desc := "()V" } : Jvm.MethodName)) ∈ x_Ts := x_wi 925 (by decide +kernel) rfl
theorem w927 : (Jvm.Cond.instanceMethod ({ cls := "TradeLinkModel", name := "ask", desc := "()V" } : Jvm.MethodName)) ∈ x_Ts := x_wi 927 (by decide +kernel) rfl
theorem w928 : (Jvm.Cond.code ({ cls := "TradeLinkModel", name := "ask", desc := "()V" } : Jvm.MethodName) prog_12_method_18_code (1 : Nat) (Option.none : Option Jvm.ClassFile.FieldType)) ∈ x_Ts := x_wi 928 (by decide +kernel) rfl
theorem w929 : (Jvm.Cond.methodLink "TradeLinkModel" (229 : Nat) ({ cls := "TradeLinkModel", name := "orderMessage", desc := "()V" } : Jvm.MethodName)) ∈ x_Ts := x_wi 929 (by decide +kernel) rfl
theorem w931 : (Jvm.Cond.instanceMethod ({ cls := "TradeLinkModel", name := "orderMessage", desc := "()V" } : Jvm.MethodName)) ∈ x_Ts := x_wi 931 (by decide +kernel) rfl
theorem w932 : (Jvm.Cond.code ({ cls := "TradeLinkModel", name := "orderMessage", desc := "()V" } : Jvm.MethodName) prog_12_method_35_code (2 : Nat) (Option.none : Option Jvm.ClassFile.FieldType)) ∈ x_Ts := x_wi 932 (by decide +kernel) rfl
theorem w933 : (Jvm.Cond.methodLink "TradeLinkModel" (207 : Nat) ({ cls := "TradeLinkModel", name := "ordered", desc := "()I" } : Jvm.MethodName)) ∈ x_Ts := x_wi 933 (by decide +kernel) rfl
theorem w935 : (Jvm.Cond.instanceMethod ({ cls := "TradeLinkModel", name := "ordered", desc := "()I" } : Jvm.MethodName)) ∈ x_Ts := x_wi 935 (by decide +kernel) rfl
theorem w936 : (Jvm.Cond.code ({ cls := "TradeLinkModel", name := "ordered", desc := "()I" } : Jvm.MethodName) prog_12_method_34_code (2 : Nat) (Option.some Jvm.ClassFile.FieldType.int)) ∈ x_Ts := x_wi 936 (by decide +kernel) rfl
theorem w937 : (Jvm.Cond.methodLink "TradeLinkModel" (198 : Nat) ({ cls := "TradeLinkModel", name := "isUsed", desc := "(I)Z" } : Jvm.MethodName)) ∈ x_Ts := x_wi 937 (by decide +kernel) rfl
theorem w939 : (Jvm.Cond.instanceMethod ({ cls := "TradeLinkModel", name := "isUsed", desc := "(I)Z" } : Jvm.MethodName)) ∈ x_Ts := x_wi 939 (by decide +kernel) rfl
theorem w940 : (Jvm.Cond.code ({ cls := "TradeLinkModel", name := "isUsed", desc := "(I)Z" } : Jvm.MethodName) prog_12_method_30_code (4 : Nat) (Option.some Jvm.ClassFile.FieldType.boolean)) ∈ x_Ts := x_wi 940 (by decide +kernel) rfl
theorem w941 : (Jvm.Cond.methodLink "TradeLinkModel" (201 : Nat) ({ cls := "TradeLinkModel", name := "openOrder", desc := "(I)I" } : Jvm.MethodName)) ∈ x_Ts := x_wi 941 (by decide +kernel) rfl
theorem w943 : (Jvm.Cond.instanceMethod ({ cls := "TradeLinkModel", name := "openOrder", desc := "(I)I" } : Jvm.MethodName)) ∈ x_Ts := x_wi 943 (by decide +kernel) rfl
theorem w944 : (Jvm.Cond.code ({ cls := "TradeLinkModel", name := "openOrder", desc := "(I)I" } : Jvm.MethodName) prog_12_method_32_code (4 : Nat) (Option.some Jvm.ClassFile.FieldType.int)) ∈ x_Ts := x_wi 944 (by decide +kernel) rfl
theorem w945 : (Jvm.Cond.methodLink "TradeLinkModel" (195 : Nat) ({ cls := "TradeLinkModel", name := "state", desc := "(I)I" } : Jvm.MethodName)) ∈ x_Ts := x_wi 945 (by decide +kernel) rfl
theorem w947 : (Jvm.Cond.instanceMethod ({ cls := "TradeLinkModel", name := "state", desc := "(I)I" } : Jvm.MethodName)) ∈ x_Ts := x_wi 947 (by decide +kernel) rfl
theorem w948 : (Jvm.Cond.code ({ cls := "TradeLinkModel", name := "state", desc := "(I)I" } : Jvm.MethodName) prog_12_method_31_code (2 : Nat) (Option.some Jvm.ClassFile.FieldType.int)) ∈ x_Ts := x_wi 948 (by decide +kernel) rfl
theorem w949 : (Jvm.Cond.methodLink "TradeLinkModel" (211 : Nat) ({ cls := "TradeLinkModel", name := "tell", desc := "(I)V" } : Jvm.MethodName)) ∈ x_Ts := x_wi 949 (by decide +kernel) rfl
theorem w951 : (Jvm.Cond.instanceMethod ({ cls := "TradeLinkModel", name := "tell", desc := "(I)V" } : Jvm.MethodName)) ∈ x_Ts := x_wi 951 (by decide +kernel) rfl
theorem w952 : (Jvm.Cond.code ({ cls := "TradeLinkModel", name := "tell", desc := "(I)V" } : Jvm.MethodName) prog_12_method_33_code (2 : Nat) (Option.none : Option Jvm.ClassFile.FieldType)) ∈ x_Ts := x_wi 952 (by decide +kernel) rfl
theorem w953 : (Jvm.Cond.methodLink "TradeLinkModel" (235 : Nat) ({ cls := "TradeLinkModel", name := "settle", desc := "()V" } : Jvm.MethodName)) ∈ x_Ts := x_wi 953 (by decide +kernel) rfl
theorem w955 : (Jvm.Cond.instanceMethod ({ cls := "TradeLinkModel", name := "settle", desc := "()V" } : Jvm.MethodName)) ∈ x_Ts := x_wi 955 (by decide +kernel) rfl
theorem w956 : (Jvm.Cond.code ({ cls := "TradeLinkModel", name := "settle", desc := "()V" } : Jvm.MethodName) prog_12_method_36_code (1 : Nat) (Option.none : Option Jvm.ClassFile.FieldType)) ∈ x_Ts := x_wi 956 (by decide +kernel) rfl
theorem w957 : (Jvm.Cond.methodLink "TradeLinkLaw" (76 : Nat) ({ cls := "TradeLinkModel", name := "tick", desc := "()I" } : Jvm.MethodName)) ∈ x_Ts := x_wi 957 (by decide +kernel) rfl
theorem w958 : (Jvm.Cond.instanceMethod ({ cls := "TradeLinkModel", name := "tick", desc := "()I" } : Jvm.MethodName)) ∈ x_Ts := x_wi 958 (by decide +kernel) rfl
theorem w959 : (Jvm.Cond.selects "TradeLinkModel" ({ cls := "TradeLinkModel", name := "tick", desc := "()I" } : Jvm.MethodName) ({ cls := "TradeLinkModel", name := "tick", desc := "()I" } : Jvm.MethodName)) ∈ x_Ts := x_wi 959 (by decide +kernel) rfl
theorem w960 : (Jvm.Cond.code ({ cls := "TradeLinkModel", name := "tick", desc := "()I" } : Jvm.MethodName) prog_12_method_39_code (1 : Nat) (Option.some Jvm.ClassFile.FieldType.int)) ∈ x_Ts := x_wi 960 (by decide +kernel) rfl
theorem w961 : (Jvm.Cond.methodLink "TradeLinkLaw" (81 : Nat) ({ cls := "TradeLinkModel", name := "restart", desc := "()Z" } : Jvm.MethodName)) ∈ x_Ts := x_wi 961 (by decide +kernel) rfl
theorem w962 : (Jvm.Cond.instanceMethod ({ cls := "TradeLinkModel", name := "restart", desc := "()Z" } : Jvm.MethodName)) ∈ x_Ts := x_wi 962 (by decide +kernel) rfl
theorem w963 : (Jvm.Cond.selects "TradeLinkModel" ({ cls := "TradeLinkModel", name := "restart", desc := "()Z" } : Jvm.MethodName) ({ cls := "TradeLinkModel", name := "restart", desc := "()Z" } : Jvm.MethodName)) ∈ x_Ts := x_wi 963 (by decide +kernel) rfl
theorem w964 : (Jvm.Cond.code ({ cls := "TradeLinkModel", name := "restart", desc := "()Z" } : Jvm.MethodName) prog_12_method_40_code (2 : Nat) (Option.some Jvm.ClassFile.FieldType.boolean)) ∈ x_Ts := x_wi 964 (by decide +kernel) rfl
theorem w965 : (Jvm.Cond.methodLink "TradeLinkLaw" (84 : Nat) ({ cls := "TradeLinkModel", name := "fill", desc := "(II)I" } : Jvm.MethodName)) ∈ x_Ts := x_wi 965 (by decide +kernel) rfl
theorem w966 : (Jvm.Cond.instanceMethod ({ cls := "TradeLinkModel", name := "fill", desc := "(II)I" } : Jvm.MethodName)) ∈ x_Ts := x_wi 966 (by decide +kernel) rfl
theorem w967 : (Jvm.Cond.selects "TradeLinkModel" ({ cls := "TradeLinkModel", name := "fill", desc := "(II)I" } : Jvm.MethodName) ({ cls := "TradeLinkModel", name := "fill", desc := "(II)I" } : Jvm.MethodName)) ∈ x_Ts := x_wi 967 (by decide +kernel) rfl
theorem w968 : (Jvm.Cond.code ({ cls := "TradeLinkModel", name := "fill", desc := "(II)I" } : Jvm.MethodName) prog_12_method_41_code (4 : Nat) (Option.some Jvm.ClassFile.FieldType.int)) ∈ x_Ts := x_wi 968 (by decide +kernel) rfl
theorem w969 : (Jvm.Cond.methodLink "TradeLinkLaw" (88 : Nat) ({ cls := "TradeLinkModel", name := "frames", desc := "()I" } : Jvm.MethodName)) ∈ x_Ts := x_wi 969 (by decide +kernel) rfl
theorem w970 : (Jvm.Cond.instanceMethod ({ cls := "TradeLinkModel", name := "frames", desc := "()I" } : Jvm.MethodName)) ∈ x_Ts := x_wi 970 (by decide +kernel) rfl
theorem w971 : (Jvm.Cond.selects "TradeLinkModel" ({ cls := "TradeLinkModel", name := "frames", desc := "()I" } : Jvm.MethodName) ({ cls := "TradeLinkModel", name := "frames", desc := "()I" } : Jvm.MethodName)) ∈ x_Ts := x_wi 971 (by decide +kernel) rfl
theorem w972 : (Jvm.Cond.code ({ cls := "TradeLinkModel", name := "frames", desc := "()I" } : Jvm.MethodName) prog_12_method_42_code (1 : Nat) (Option.some Jvm.ClassFile.FieldType.int)) ∈ x_Ts := x_wi 972 (by decide +kernel) rfl
theorem w973 : (Jvm.Cond.methodLink "TradeLinkLaw" (91 : Nat) ({ cls := "TradeLinkModel", name := "length", desc := "(I)I" } : Jvm.MethodName)) ∈ x_Ts := x_wi 973 (by decide +kernel) rfl
theorem w974 : (Jvm.Cond.instanceMethod ({ cls := "TradeLinkModel", name := "length", desc := "(I)I" } : Jvm.MethodName)) ∈ x_Ts := x_wi 974 (by decide +kernel) rfl
theorem w975 : (Jvm.Cond.selects "TradeLinkModel" ({ cls := "TradeLinkModel", name := "length", desc := "(I)I" } : Jvm.MethodName) ({ cls := "TradeLinkModel", name := "length", desc := "(I)I" } : Jvm.MethodName)) ∈ x_Ts := x_wi 975 (by decide +kernel) rfl
theorem w976 : (Jvm.Cond.code ({ cls := "TradeLinkModel", name := "length", desc := "(I)I" } : Jvm.MethodName) prog_12_method_43_code (2 : Nat) (Option.some Jvm.ClassFile.FieldType.int)) ∈ x_Ts := x_wi 976 (by decide +kernel) rfl
theorem w977 : (Jvm.Cond.methodLink "TradeLinkLaw" (94 : Nat) ({ cls := "TradeLinkModel", name := "octet", desc := "(II)I" } : Jvm.MethodName)) ∈ x_Ts := x_wi 977 (by decide +kernel) rfl
theorem w978 : (Jvm.Cond.instanceMethod ({ cls := "TradeLinkModel", name := "octet", desc := "(II)I" } : Jvm.MethodName)) ∈ x_Ts := x_wi 978 (by decide +kernel) rfl
theorem w979 : (Jvm.Cond.selects "TradeLinkModel" ({ cls := "TradeLinkModel", name := "octet", desc := "(II)I" } : Jvm.MethodName) ({ cls := "TradeLinkModel", name := "octet", desc := "(II)I" } : Jvm.MethodName)) ∈ x_Ts := x_wi 979 (by decide +kernel) rfl
theorem w980 : (Jvm.Cond.code ({ cls := "TradeLinkModel", name := "octet", desc := "(II)I" } : Jvm.MethodName) prog_12_method_44_code (3 : Nat) (Option.some Jvm.ClassFile.FieldType.int)) ∈ x_Ts := x_wi 980 (by decide +kernel) rfl
theorem w981 : (Jvm.Cond.methodLink "TradeLinkLaw" (97 : Nat) ({ cls := "TradeLinkModel", name := "session", desc := "(I)I" } : Jvm.MethodName)) ∈ x_Ts := x_wi 981 (by decide +kernel) rfl
theorem w982 : (Jvm.Cond.instanceMethod ({ cls := "TradeLinkModel", name := "session", desc := "(I)I" } : Jvm.MethodName)) ∈ x_Ts := x_wi 982 (by decide +kernel) rfl
theorem w983 : (Jvm.Cond.selects "TradeLinkModel" ({ cls := "TradeLinkModel", name := "session", desc := "(I)I" } : Jvm.MethodName) ({ cls := "TradeLinkModel", name := "session", desc := "(I)I" } : Jvm.MethodName)) ∈ x_Ts := x_wi 983 (by decide +kernel) rfl
theorem w984 : (Jvm.Cond.code ({ cls := "TradeLinkModel", name := "session", desc := "(I)I" } : Jvm.MethodName) prog_12_method_45_code (2 : Nat) (Option.some Jvm.ClassFile.FieldType.int)) ∈ x_Ts := x_wi 984 (by decide +kernel) rfl
theorem w985 : (Jvm.Cond.methodLink "TradeLinkLaw" (100 : Nat) ({ cls := "TradeLinkModel", name := "order", desc := "(II)I" } : Jvm.MethodName)) ∈ x_Ts := x_wi 985 (by decide +kernel) rfl
theorem w986 : (Jvm.Cond.instanceMethod ({ cls := "TradeLinkModel", name := "order", desc := "(II)I" } : Jvm.MethodName)) ∈ x_Ts := x_wi 986 (by decide +kernel) rfl
theorem w987 : (Jvm.Cond.selects "TradeLinkModel" ({ cls := "TradeLinkModel", name := "order", desc := "(II)I" } : Jvm.MethodName) ({ cls := "TradeLinkModel", name := "order", desc := "(II)I" } : Jvm.MethodName)) ∈ x_Ts := x_wi 987 (by decide +kernel) rfl
theorem w988 : (Jvm.Cond.code ({ cls := "TradeLinkModel", name := "order", desc := "(II)I" } : Jvm.MethodName) prog_12_method_46_code (5 : Nat) (Option.some Jvm.ClassFile.FieldType.int)) ∈ x_Ts := x_wi 988 (by decide +kernel) rfl
theorem w989 : (Jvm.Cond.arrayClass Jvm.ClassFile.FieldType.long) ∈ x_Ts := x_wi 989 (by decide +kernel) rfl
theorem wp0 : (Jvm.Cond.selects "TradeLink$Session" ({ cls := "TradeLink$Session", name := "logOut", desc := "()V" } : Jvm.MethodName) ({ cls := "TradeLink$Session", name := "logOut", desc := "()V" } : Jvm.MethodName)) ∈ x_Ts := x_wp 0 (by decide +kernel) rfl
theorem wp1 : (Jvm.Cond.selects "TradeLink$Session" ({ cls := "TradeLink$Session", name := "send", desc := "(III)V" } : Jvm.MethodName) ({ cls := "TradeLink$Session", name := "send", desc := "(III)V" } : Jvm.MethodName)) ∈ x_Ts := x_wp 1 (by decide +kernel) rfl
theorem wp2 : (Jvm.Cond.selects "TradeLink$Session" ({ cls := "TradeLink$Session", name := "post", desc := "(IIZ)LTradeLink$Message;" } : Jvm.MethodName) ({ cls := "TradeLink$Session", name := "post", desc := "(IIZ)LTradeLink$Message;" } : Jvm.MethodName)) ∈ x_Ts := x_wp 2 (by decide +kernel) rfl
theorem wp3 : (Jvm.Cond.selects "TradeLink$Session" ({ cls := "TradeLink$Session", name := "ask", desc := "()V" } : Jvm.MethodName) ({ cls := "TradeLink$Session", name := "ask", desc := "()V" } : Jvm.MethodName)) ∈ x_Ts := x_wp 3 (by decide +kernel) rfl
theorem wp4 : (Jvm.Cond.selects "java/lang/Throwable" ({ cls := "java/lang/Throwable", name := "fillInStackTrace", desc := "(I)Ljava/lang/Throwable;" } : Jvm.MethodName) ({ cls := "java/lang/Throwable", name := "fillInStackTrace", desc := "(I)Ljava/lang/Throwable;" } : Jvm.MethodName)) ∈ x_Ts := x_wp 4 (by decide +kernel) rfl
theorem wp5 : (Jvm.Cond.selects "TradeLink$Message" ({ cls := "TradeLink$Message", name := "writeOwnFields", desc := "(LTradeLink$Row;)V" } : Jvm.MethodName) ({ cls := "TradeLink$Message", name := "writeOwnFields", desc := "(LTradeLink$Row;)V" } : Jvm.MethodName)) ∈ x_Ts := x_wp 5 (by decide +kernel) rfl
theorem wp6 : (Jvm.Cond.selects "TradeLink$Inbox" ({ cls := "TradeLink$Inbox", name := "opens", desc := "(I)Z" } : Jvm.MethodName) ({ cls := "TradeLink$Inbox", name := "opens", desc := "(I)Z" } : Jvm.MethodName)) ∈ x_Ts := x_wp 6 (by decide +kernel) rfl
theorem wp7 : (Jvm.Cond.selects "TradeLink$Inbox" ({ cls := "TradeLink$Inbox", name := "character", desc := "()I" } : Jvm.MethodName) ({ cls := "TradeLink$Inbox", name := "character", desc := "()I" } : Jvm.MethodName)) ∈ x_Ts := x_wp 7 (by decide +kernel) rfl
theorem wp8 : (Jvm.Cond.selects "TradeLink$Inbox" ({ cls := "TradeLink$Inbox", name := "closes", desc := "()Z" } : Jvm.MethodName) ({ cls := "TradeLink$Inbox", name := "closes", desc := "()Z" } : Jvm.MethodName)) ∈ x_Ts := x_wp 8 (by decide +kernel) rfl
theorem wp9 : (Jvm.Cond.selects "TradeLink$Inbox" ({ cls := "TradeLink$Inbox", name := "number", desc := "()I" } : Jvm.MethodName) ({ cls := "TradeLink$Inbox", name := "number", desc := "()I" } : Jvm.MethodName)) ∈ x_Ts := x_wp 9 (by decide +kernel) rfl
theorem wp10 : (Jvm.Cond.selects "TradeLink$Inbox" ({ cls := "TradeLink$Inbox", name := "scanHead", desc := "(LTradeLink$Message;)Z" } : Jvm.MethodName) ({ cls := "TradeLink$Inbox", name := "scanHead", desc := "(LTradeLink$Message;)Z" } : Jvm.MethodName)) ∈ x_Ts := x_wp 10 (by decide +kernel) rfl
theorem wp11 : (Jvm.Cond.selects "TradeLink$Inbox" ({ cls := "TradeLink$Inbox", name := "scanOwnFields", desc := "(LTradeLink$Message;)Z" } : Jvm.MethodName) ({ cls := "TradeLink$Inbox", name := "scanOwnFields", desc := "(LTradeLink$Message;)Z" } : Jvm.MethodName)) ∈ x_Ts := x_wp 11 (by decide +kernel) rfl
theorem wp12 : (Jvm.Cond.selects "TradeLink$Inbox" ({ cls := "TradeLink$Inbox", name := "yesOrNo", desc := "()I" } : Jvm.MethodName) ({ cls := "TradeLink$Inbox", name := "yesOrNo", desc := "()I" } : Jvm.MethodName)) ∈ x_Ts := x_wp 12 (by decide +kernel) rfl
theorem wp13 : (Jvm.Cond.selects "TradeLink$Inbox" ({ cls := "TradeLink$Inbox", name := "scanSum", desc := "()Z" } : Jvm.MethodName) ({ cls := "TradeLink$Inbox", name := "scanSum", desc := "()Z" } : Jvm.MethodName)) ∈ x_Ts := x_wp 13 (by decide +kernel) rfl
theorem wp14 : (Jvm.Cond.selects "TradeLink$Session" ({ cls := "TradeLink$Session", name := "raiseAwaited", desc := "(I)Z" } : Jvm.MethodName) ({ cls := "TradeLink$Session", name := "raiseAwaited", desc := "(I)Z" } : Jvm.MethodName)) ∈ x_Ts := x_wp 14 (by decide +kernel) rfl
theorem wp15 : (Jvm.Cond.selects "TradeLink$Session" ({ cls := "TradeLink$Session", name := "receiveLow", desc := "(Z)I" } : Jvm.MethodName) ({ cls := "TradeLink$Session", name := "receiveLow", desc := "(Z)I" } : Jvm.MethodName)) ∈ x_Ts := x_wp 15 (by decide +kernel) rfl
theorem wp16 : (Jvm.Cond.selects "TradeLink$Session" ({ cls := "TradeLink$Session", name := "receiveEarly", desc := "(LTradeLink$Message;)I" } : Jvm.MethodName) ({ cls := "TradeLink$Session", name := "receiveEarly", desc := "(LTradeLink$Message;)I" } : Jvm.MethodName)) ∈ x_Ts := x_wp 16 (by decide +kernel) rfl
theorem wp17 : (Jvm.Cond.selects "TradeLink$Session" ({ cls := "TradeLink$Session", name := "answerResend", desc := "(II)V" } : Jvm.MethodName) ({ cls := "TradeLink$Session", name := "answerResend", desc := "(II)V" } : Jvm.MethodName)) ∈ x_Ts := x_wp 17 (by decide +kernel) rfl
theorem wp18 : (Jvm.Cond.selects "TradeLink$Session" ({ cls := "TradeLink$Session", name := "postGap", desc := "(II)V" } : Jvm.MethodName) ({ cls := "TradeLink$Session", name := "postGap", desc := "(II)V" } : Jvm.MethodName)) ∈ x_Ts := x_wp 18 (by decide +kernel) rfl
theorem wp19 : (Jvm.Cond.selects "TradeLink$Session" ({ cls := "TradeLink$Session", name := "receiveInTurn", desc := "(LTradeLink$Message;)V" } : Jvm.MethodName) ({ cls := "TradeLink$Session", name := "receiveInTurn", desc := "(LTradeLink$Message;)V" } : Jvm.MethodName)) ∈ x_Ts := x_wp 19 (by decide +kernel) rfl
theorem wp20 : (Jvm.Cond.selects "TradeLink$Book" ({ cls := "TradeLink$Book", name := "isUsed", desc := "(I)Z" } : Jvm.MethodName) ({ cls := "TradeLink$Book", name := "isUsed", desc := "(I)Z" } : Jvm.MethodName)) ∈ x_Ts := x_wp 20 (by decide +kernel) rfl
theorem wp21 : (Jvm.Cond.selects "TradeLink$Book" ({ cls := "TradeLink$Book", name := "enter", desc := "(II)LTradeLink$Order;" } : Jvm.MethodName) ({ cls := "TradeLink$Book", name := "enter", desc := "(II)LTradeLink$Order;" } : Jvm.MethodName)) ∈ x_Ts := x_wp 21 (by decide +kernel) rfl
theorem wp22 : (Jvm.Cond.selects "TradeLink$Book" ({ cls := "TradeLink$Book", name := "amend", desc := "(IZI)LTradeLink$Order;" } : Jvm.MethodName) ({ cls := "TradeLink$Book", name := "amend", desc := "(IZI)LTradeLink$Order;" } : Jvm.MethodName)) ∈ x_Ts := x_wp 22 (by decide +kernel) rfl
theorem wp23 : (Jvm.Cond.selects "TradeLink$Book" ({ cls := "TradeLink$Book", name := "use", desc := "(I)V" } : Jvm.MethodName) ({ cls := "TradeLink$Book", name := "use", desc := "(I)V" } : Jvm.MethodName)) ∈ x_Ts := x_wp 23 (by decide +kernel) rfl
theorem wp24 : (Jvm.Cond.selects "TradeLinkModel" ({ cls := "TradeLinkModel", name := "fail", desc := "(I)I" } : Jvm.MethodName) ({ cls := "TradeLinkModel", name := "fail", desc := "(I)I" } : Jvm.MethodName)) ∈ x_Ts := x_wp 24 (by decide +kernel) rfl
theorem wp25 : (Jvm.Cond.selects "TradeLinkModel" ({ cls := "TradeLinkModel", name := "make", desc := "(IIZIIII)V" } : Jvm.MethodName) ({ cls := "TradeLinkModel", name := "make", desc := "(IIZIIII)V" } : Jvm.MethodName)) ∈ x_Ts := x_wp 25 (by decide +kernel) rfl
theorem wp26 : (Jvm.Cond.selects "TradeLinkModel" ({ cls := "TradeLinkModel", name := "letter", desc := "(II)V" } : Jvm.MethodName) ({ cls := "TradeLinkModel", name := "letter", desc := "(II)V" } : Jvm.MethodName)) ∈ x_Ts := x_wp 26 (by decide +kernel) rfl
theorem wp27 : (Jvm.Cond.selects "TradeLinkModel" ({ cls := "TradeLinkModel", name := "digits", desc := "(I)V" } : Jvm.MethodName) ({ cls := "TradeLinkModel", name := "digits", desc := "(I)V" } : Jvm.MethodName)) ∈ x_Ts := x_wp 27 (by decide +kernel) rfl
theorem wp28 : (Jvm.Cond.selects "TradeLinkModel" ({ cls := "TradeLinkModel", name := "put", desc := "(I)V" } : Jvm.MethodName) ({ cls := "TradeLinkModel", name := "put", desc := "(I)V" } : Jvm.MethodName)) ∈ x_Ts := x_wp 28 (by decide +kernel) rfl
theorem wp29 : (Jvm.Cond.selects "TradeLinkModel" ({ cls := "TradeLinkModel", name := "body", desc := "(IIIIIZ)I" } : Jvm.MethodName) ({ cls := "TradeLinkModel", name := "body", desc := "(IIIIIZ)I" } : Jvm.MethodName)) ∈ x_Ts := x_wp 29 (by decide +kernel) rfl
theorem wp30 : (Jvm.Cond.selects "TradeLinkModel" ({ cls := "TradeLinkModel", name := "field", desc := "(II)V" } : Jvm.MethodName) ({ cls := "TradeLinkModel", name := "field", desc := "(II)V" } : Jvm.MethodName)) ∈ x_Ts := x_wp 30 (by decide +kernel) rfl
theorem wp31 : (Jvm.Cond.selects "TradeLinkModel" ({ cls := "TradeLinkModel", name := "byteAt", desc := "(I)I" } : Jvm.MethodName) ({ cls := "TradeLinkModel", name := "byteAt", desc := "(I)I" } : Jvm.MethodName)) ∈ x_Ts := x_wp 31 (by decide +kernel) rfl
theorem wp32 : (Jvm.Cond.selects "TradeLinkModel" ({ cls := "TradeLinkModel", name := "taken", desc := "()I" } : Jvm.MethodName) ({ cls := "TradeLinkModel", name := "taken", desc := "()I" } : Jvm.MethodName)) ∈ x_Ts := x_wp 32 (by decide +kernel) rfl
theorem wp33 : (Jvm.Cond.selects "TradeLinkModel" ({ cls := "TradeLinkModel", name := "good", desc := "()Z" } : Jvm.MethodName) ({ cls := "TradeLinkModel", name := "good", desc := "()Z" } : Jvm.MethodName)) ∈ x_Ts := x_wp 33 (by decide +kernel) rfl
theorem wp34 : (Jvm.Cond.selects "TradeLinkModel" ({ cls := "TradeLinkModel", name := "cut", desc := "()Z" } : Jvm.MethodName) ({ cls := "TradeLinkModel", name := "cut", desc := "()Z" } : Jvm.MethodName)) ∈ x_Ts := x_wp 34 (by decide +kernel) rfl
theorem wp35 : (Jvm.Cond.selects "TradeLinkModel" ({ cls := "TradeLinkModel", name := "closed", desc := "()Z" } : Jvm.MethodName) ({ cls := "TradeLinkModel", name := "closed", desc := "()Z" } : Jvm.MethodName)) ∈ x_Ts := x_wp 35 (by decide +kernel) rfl
theorem wp36 : (Jvm.Cond.selects "TradeLinkModel" ({ cls := "TradeLinkModel", name := "numberAt", desc := "(II)I" } : Jvm.MethodName) ({ cls := "TradeLinkModel", name := "numberAt", desc := "(II)I" } : Jvm.MethodName)) ∈ x_Ts := x_wp 36 (by decide +kernel) rfl
theorem wp37 : (Jvm.Cond.selects "TradeLinkModel" ({ cls := "TradeLinkModel", name := "letterAt", desc := "(II)I" } : Jvm.MethodName) ({ cls := "TradeLinkModel", name := "letterAt", desc := "(II)I" } : Jvm.MethodName)) ∈ x_Ts := x_wp 37 (by decide +kernel) rfl
theorem wp38 : (Jvm.Cond.selects "TradeLinkModel" ({ cls := "TradeLinkModel", name := "leave", desc := "()V" } : Jvm.MethodName) ({ cls := "TradeLinkModel", name := "leave", desc := "()V" } : Jvm.MethodName)) ∈ x_Ts := x_wp 38 (by decide +kernel) rfl
theorem wp39 : (Jvm.Cond.selects "TradeLinkModel" ({ cls := "TradeLinkModel", name := "send", desc := "(IIIII)V" } : Jvm.MethodName) ({ cls := "TradeLinkModel", name := "send", desc := "(IIIII)V" } : Jvm.MethodName)) ∈ x_Ts := x_wp 39 (by decide +kernel) rfl
theorem wp40 : (Jvm.Cond.selects "TradeLinkModel" ({ cls := "TradeLinkModel", name := "goes", desc := "(IIZIIII)V" } : Jvm.MethodName) ({ cls := "TradeLinkModel", name := "goes", desc := "(IIZIIII)V" } : Jvm.MethodName)) ∈ x_Ts := x_wp 40 (by decide +kernel) rfl
theorem wp41 : (Jvm.Cond.selects "TradeLinkModel" ({ cls := "TradeLinkModel", name := "answer", desc := "(II)V" } : Jvm.MethodName) ({ cls := "TradeLinkModel", name := "answer", desc := "(II)V" } : Jvm.MethodName)) ∈ x_Ts := x_wp 41 (by decide +kernel) rfl
theorem wp42 : (Jvm.Cond.selects "TradeLinkModel" ({ cls := "TradeLinkModel", name := "ask", desc := "()V" } : Jvm.MethodName) ({ cls := "TradeLinkModel", name := "ask", desc := "()V" } : Jvm.MethodName)) ∈ x_Ts := x_wp 42 (by decide +kernel) rfl
theorem wp43 : (Jvm.Cond.selects "TradeLinkModel" ({ cls := "TradeLinkModel", name := "orderMessage", desc := "()V" } : Jvm.MethodName) ({ cls := "TradeLinkModel", name := "orderMessage", desc := "()V" } : Jvm.MethodName)) ∈ x_Ts := x_wp 43 (by decide +kernel) rfl
theorem wp44 : (Jvm.Cond.selects "TradeLinkModel" ({ cls := "TradeLinkModel", name := "ordered", desc := "()I" } : Jvm.MethodName) ({ cls := "TradeLinkModel", name := "ordered", desc := "()I" } : Jvm.MethodName)) ∈ x_Ts := x_wp 44 (by decide +kernel) rfl
theorem wp45 : (Jvm.Cond.selects "TradeLinkModel" ({ cls := "TradeLinkModel", name := "isUsed", desc := "(I)Z" } : Jvm.MethodName) ({ cls := "TradeLinkModel", name := "isUsed", desc := "(I)Z" } : Jvm.MethodName)) ∈ x_Ts := x_wp 45 (by decide +kernel) rfl
theorem wp46 : (Jvm.Cond.selects "TradeLinkModel" ({ cls := "TradeLinkModel", name := "openOrder", desc := "(I)I" } : Jvm.MethodName) ({ cls := "TradeLinkModel", name := "openOrder", desc := "(I)I" } : Jvm.MethodName)) ∈ x_Ts := x_wp 46 (by decide +kernel) rfl
theorem wp47 : (Jvm.Cond.selects "TradeLinkModel" ({ cls := "TradeLinkModel", name := "state", desc := "(I)I" } : Jvm.MethodName) ({ cls := "TradeLinkModel", name := "state", desc := "(I)I" } : Jvm.MethodName)) ∈ x_Ts := x_wp 47 (by decide +kernel) rfl
theorem wp48 : (Jvm.Cond.selects "TradeLinkModel" ({ cls := "TradeLinkModel", name := "tell", desc := "(I)V" } : Jvm.MethodName) ({ cls := "TradeLinkModel", name := "tell", desc := "(I)V" } : Jvm.MethodName)) ∈ x_Ts := x_wp 48 (by decide +kernel) rfl
theorem wp49 : (Jvm.Cond.selects "TradeLinkModel" ({ cls := "TradeLinkModel", name := "settle", desc := "()V" } : Jvm.MethodName) ({ cls := "TradeLinkModel", name := "settle", desc := "()V" } : Jvm.MethodName)) ∈ x_Ts := x_wp 49 (by decide +kernel) rfl
theorem xin0 : ∀ q ∈ u_ws "TradeLink" xT0 3, q ∈ x_Ts := by
  have h : (u_ws "TradeLink" xT0 3).all (fun q => decide (q ∈ x_Ts)) = true := by decide +kernel
  exact fun q hq => of_decide_eq_true (List.all_eq_true.mp h q hq)
theorem cf0 : x_CF 0 "TradeLink" xT0 3 xt0 := ⟨rfl, xin0, by decide +kernel, by decide +kernel, by decide, w21, w1⟩
theorem xin1 : ∀ q ∈ u_ws "TradeLink$Inbox" xT1 2, q ∈ x_Ts := by
  have h : (u_ws "TradeLink$Inbox" xT1 2).all (fun q => decide (q ∈ x_Ts)) = true := by decide +kernel
  exact fun q hq => of_decide_eq_true (List.all_eq_true.mp h q hq)
theorem cf1 : x_CF 1 "TradeLink$Inbox" xT1 2 xt1 := ⟨rfl, xin1, by decide +kernel, by decide +kernel, by decide, w29, w2⟩
theorem xin2 : ∀ q ∈ u_ws "TradeLink$Row" xT2 2, q ∈ x_Ts := by
  have h : (u_ws "TradeLink$Row" xT2 2).all (fun q => decide (q ∈ x_Ts)) = true := by decide +kernel
  exact fun q hq => of_decide_eq_true (List.all_eq_true.mp h q hq)
theorem cf2 : x_CF 2 "TradeLink$Row" xT2 2 xt2 := ⟨rfl, xin2, by decide +kernel, by decide +kernel, by decide, w35, w3⟩
theorem xin3 : ∀ q ∈ u_ws "TradeLink$Message" xT3 4, q ∈ x_Ts := by
  have h : (u_ws "TradeLink$Message" xT3 4).all (fun q => decide (q ∈ x_Ts)) = true := by decide +kernel
  exact fun q hq => of_decide_eq_true (List.all_eq_true.mp h q hq)
theorem cf3 : x_CF 3 "TradeLink$Message" xT3 4 xt3 := ⟨rfl, xin3, by decide +kernel, by decide +kernel, by decide, w60, w4⟩
theorem xin4 : ∀ q ∈ u_ws "TradeLink$Session" xT4 12, q ∈ x_Ts := by
  have h : (u_ws "TradeLink$Session" xT4 12).all (fun q => decide (q ∈ x_Ts)) = true := by decide +kernel
  exact fun q hq => of_decide_eq_true (List.all_eq_true.mp h q hq)
theorem cf4 : x_CF 4 "TradeLink$Session" xT4 12 xt4 := ⟨rfl, xin4, by decide +kernel, by decide +kernel, by decide, w87, w5⟩
theorem xin5 : ∀ q ∈ u_ws "TradeLink$Outbox" xT5 3, q ∈ x_Ts := by
  have h : (u_ws "TradeLink$Outbox" xT5 3).all (fun q => decide (q ∈ x_Ts)) = true := by decide +kernel
  exact fun q hq => of_decide_eq_true (List.all_eq_true.mp h q hq)
theorem cf5 : x_CF 5 "TradeLink$Outbox" xT5 3 xt5 := ⟨rfl, xin5, by decide +kernel, by decide +kernel, by decide, w93, w6⟩
theorem xin6 : ∀ q ∈ u_ws "TradeLink$Book" xT6 4, q ∈ x_Ts := by
  have h : (u_ws "TradeLink$Book" xT6 4).all (fun q => decide (q ∈ x_Ts)) = true := by decide +kernel
  exact fun q hq => of_decide_eq_true (List.all_eq_true.mp h q hq)
theorem cf6 : x_CF 6 "TradeLink$Book" xT6 4 xt6 := ⟨rfl, xin6, by decide +kernel, by decide +kernel, by decide, w115, w7⟩
theorem xin7 : ∀ q ∈ u_ws "TradeLink$Order" xT7 5, q ∈ x_Ts := by
  have h : (u_ws "TradeLink$Order" xT7 5).all (fun q => decide (q ∈ x_Ts)) = true := by decide +kernel
  exact fun q hq => of_decide_eq_true (List.all_eq_true.mp h q hq)
theorem cf7 : x_CF 7 "TradeLink$Order" xT7 5 xt7 := ⟨rfl, xin7, by decide +kernel, by decide +kernel, by decide, w122, w8⟩
theorem xin8 : ∀ q ∈ u_ws "TradeLink$Store" xT8 2, q ∈ x_Ts := by
  have h : (u_ws "TradeLink$Store" xT8 2).all (fun q => decide (q ∈ x_Ts)) = true := by decide +kernel
  exact fun q hq => of_decide_eq_true (List.all_eq_true.mp h q hq)
theorem cf8 : x_CF 8 "TradeLink$Store" xT8 2 xt8 := ⟨rfl, xin8, by decide +kernel, by decide +kernel, by decide, w165, w9⟩
theorem xin9 : ∀ q ∈ u_ws "TradeLinkModel" xT9 39, q ∈ x_Ts := by
  have h : (u_ws "TradeLinkModel" xT9 39).all (fun q => decide (q ∈ x_Ts)) = true := by decide +kernel
  exact fun q hq => of_decide_eq_true (List.all_eq_true.mp h q hq)
theorem cf9 : x_CF 9 "TradeLinkModel" xT9 39 xt9 := ⟨rfl, xin9, by decide +kernel, by decide +kernel, by decide, w690, w10⟩
