/-! The words of the tables that the walks use, by number. -/
def wc_tb : List Cond := [
  (Jvm.Cond.initialized "WaitedCommitsLaw"),
  (Jvm.Cond.initialized "WaitedCommits"),
  (Jvm.Cond.initialized "java/lang/Math"),
  (Jvm.Cond.initialized "WaitedCommits$Site"),
  (Jvm.Cond.initialized "WaitedCommits$Key"),
  (Jvm.Cond.initialized "WaitedCommits$Transaction"),
  (Jvm.Cond.initialized "WaitedCommits$Message"),
  (Jvm.Cond.initialized "WaitedCommitsModel"),
  (Jvm.Cond.classLink "WaitedCommitsLaw" (7 : Nat) "WaitedCommits"),
  (Jvm.Cond.instantiable "WaitedCommits" (9 : Nat)),
  (Jvm.Cond.methodLink "WaitedCommitsLaw" (15 : Nat) ({ cls := "WaitedCommits", name := "<init>", desc := "(I)V" } : Jvm.MethodName)),
  (Jvm.Cond.instanceMethod ({ cls := "WaitedCommits", name := "<init>", desc := "(I)V" } : Jvm.MethodName)),
  (Jvm.Cond.code ({ cls := "WaitedCommits", name := "<init>", desc := "(I)V" } : Jvm.MethodName) prog_1_method_1_code (4 : Nat) (Option.none : Option Jvm.ClassFile.FieldType)),
  (Jvm.Cond.methodLink "WaitedCommits" (1 : Nat) ({ cls := "java/lang/Object", name := "<init>", desc := "()V" } : Jvm.MethodName)),
  (Jvm.Cond.instanceMethod ({ cls := "java/lang/Object", name := "<init>", desc := "()V" } : Jvm.MethodName)),
  (Jvm.Cond.code ({ cls := "java/lang/Object", name := "<init>", desc := "()V" } : Jvm.MethodName) object_method_1_code (1 : Nat) (Option.none : Option Jvm.ClassFile.FieldType)),
  (Jvm.Cond.classLink "WaitedCommits" (9 : Nat) "WaitedCommits$Site"),
  (Jvm.Cond.classLink "WaitedCommits" (15 : Nat) "WaitedCommits$Key"),
  (Jvm.Cond.classLink "WaitedCommits" (21 : Nat) "WaitedCommits$Transaction"),
  (Jvm.Cond.classLink "WaitedCommits" (27 : Nat) "WaitedCommits$Message"),
  (Jvm.Cond.methodLink "WaitedCommits" (46 : Nat) ({ cls := "java/lang/Math", name := "min", desc := "(II)I" } : Jvm.MethodName)),
  (Jvm.Cond.static ({ cls := "java/lang/Math", name := "min", desc := "(II)I" } : Jvm.MethodName)),
  (Jvm.Cond.code ({ cls := "java/lang/Math", name := "min", desc := "(II)I" } : Jvm.MethodName) prog_8_method_69_code (2 : Nat) (Option.some Jvm.ClassFile.FieldType.int)),
  (Jvm.Cond.methodLink "WaitedCommits" (52 : Nat) ({ cls := "java/lang/Math", name := "max", desc := "(II)I" } : Jvm.MethodName)),
  (Jvm.Cond.static ({ cls := "java/lang/Math", name := "max", desc := "(II)I" } : Jvm.MethodName)),
  (Jvm.Cond.code ({ cls := "java/lang/Math", name := "max", desc := "(II)I" } : Jvm.MethodName) prog_8_method_65_code (2 : Nat) (Option.some Jvm.ClassFile.FieldType.int)),
  (Jvm.Cond.instantiable "WaitedCommits$Site" (5 : Nat)),
  (Jvm.Cond.methodLinkNest "WaitedCommits" (58 : Nat) ({ cls := "WaitedCommits$Site", name := "<init>", desc := "(I)V" } : Jvm.MethodName) "WaitedCommits"),
  (Jvm.Cond.instanceMethod ({ cls := "WaitedCommits$Site", name := "<init>", desc := "(I)V" } : Jvm.MethodName)),
  (Jvm.Cond.code ({ cls := "WaitedCommits$Site", name := "<init>", desc := "(I)V" } : Jvm.MethodName) prog_4_method_1_code (2 : Nat) (Option.none : Option Jvm.ClassFile.FieldType)),
  (Jvm.Cond.methodLink "WaitedCommits$Site" (1 : Nat) ({ cls := "java/lang/Object", name := "<init>", desc := "()V" } : Jvm.MethodName)),
  (Jvm.Cond.fieldLink "WaitedCommits$Site" (20 : Nat) "WaitedCommits$Site" "before" "I"),
  (Jvm.Cond.fieldLinkNest "WaitedCommits" (73 : Nat) "WaitedCommits$Site" "before" "I" "WaitedCommits"),
  (Jvm.Cond.fieldLink "WaitedCommits$Site" (23 : Nat) "WaitedCommits$Site" "after" "I"),
  (Jvm.Cond.fieldLinkNest "WaitedCommits" (76 : Nat) "WaitedCommits$Site" "after" "I" "WaitedCommits"),
  (Jvm.Cond.fieldLink "WaitedCommits$Site" (7 : Nat) "WaitedCommits$Site" "delay" "I"),
  (Jvm.Cond.fieldLinkNest "WaitedCommits" (79 : Nat) "WaitedCommits$Site" "delay" "I" "WaitedCommits"),
  (Jvm.Cond.fieldLink "WaitedCommits$Site" (13 : Nat) "WaitedCommits$Site" "isUp" "Z"),
  (Jvm.Cond.fieldLinkNest "WaitedCommits" (82 : Nat) "WaitedCommits$Site" "isUp" "Z" "WaitedCommits"),
  (Jvm.Cond.fieldLink "WaitedCommits$Site" (17 : Nat) "WaitedCommits$Site" "bound" "I"),
  (Jvm.Cond.fieldLinkNest "WaitedCommits" (168 : Nat) "WaitedCommits$Site" "bound" "I" "WaitedCommits"),
  (Jvm.Cond.lays "WaitedCommits$Site" "WaitedCommits$Site" "before" "I"),
  (Jvm.Cond.lays "WaitedCommits$Site" "WaitedCommits$Site" "after" "I"),
  (Jvm.Cond.lays "WaitedCommits$Site" "WaitedCommits$Site" "delay" "I"),
  (Jvm.Cond.lays "WaitedCommits$Site" "WaitedCommits$Site" "isUp" "Z"),
  (Jvm.Cond.lays "WaitedCommits$Site" "WaitedCommits$Site" "bound" "I"),
  (Jvm.Cond.instantiable "WaitedCommits$Key" (3 : Nat)),
  (Jvm.Cond.methodLinkNest "WaitedCommits" (61 : Nat) ({ cls := "WaitedCommits$Key", name := "<init>", desc := "()V" } : Jvm.MethodName) "WaitedCommits"),
  (Jvm.Cond.instanceMethod ({ cls := "WaitedCommits$Key", name := "<init>", desc := "()V" } : Jvm.MethodName)),
  (Jvm.Cond.code ({ cls := "WaitedCommits$Key", name := "<init>", desc := "()V" } : Jvm.MethodName) prog_2_method_1_code (1 : Nat) (Option.none : Option Jvm.ClassFile.FieldType)),
  (Jvm.Cond.methodLink "WaitedCommits$Key" (3 : Nat) ({ cls := "java/lang/Object", name := "<init>", desc := "()V" } : Jvm.MethodName)),
  (Jvm.Cond.fieldLink "WaitedCommits$Key" (9 : Nat) "WaitedCommits$Key" "values" "[I"),
  (Jvm.Cond.fieldLinkNest "WaitedCommits" (118 : Nat) "WaitedCommits$Key" "values" "[I" "WaitedCommits"),
  (Jvm.Cond.fieldLink "WaitedCommits$Key" (15 : Nat) "WaitedCommits$Key" "stamps" "[I"),
  (Jvm.Cond.fieldLinkNest "WaitedCommits" (174 : Nat) "WaitedCommits$Key" "stamps" "[I" "WaitedCommits"),
  (Jvm.Cond.fieldLink "WaitedCommits$Key" (18 : Nat) "WaitedCommits$Key" "count" "I"),
  (Jvm.Cond.fieldLinkNest "WaitedCommits" (171 : Nat) "WaitedCommits$Key" "count" "I" "WaitedCommits"),
  (Jvm.Cond.laysFinal "WaitedCommits$Key" "WaitedCommits$Key" "values" "[I"),
  (Jvm.Cond.laysFinal "WaitedCommits$Key" "WaitedCommits$Key" "stamps" "[I"),
  (Jvm.Cond.lays "WaitedCommits$Key" "WaitedCommits$Key" "count" "I"),
  (Jvm.Cond.instantiable "WaitedCommits$Transaction" (10 : Nat)),
  (Jvm.Cond.methodLinkNest "WaitedCommits" (62 : Nat) ({ cls := "WaitedCommits$Transaction", name := "<init>", desc := "()V" } : Jvm.MethodName) "WaitedCommits"),
  (Jvm.Cond.instanceMethod ({ cls := "WaitedCommits$Transaction", name := "<init>", desc := "()V" } : Jvm.MethodName)),
  (Jvm.Cond.code ({ cls := "WaitedCommits$Transaction", name := "<init>", desc := "()V" } : Jvm.MethodName) prog_5_method_1_code (1 : Nat) (Option.none : Option Jvm.ClassFile.FieldType)),
  (Jvm.Cond.methodLink "WaitedCommits$Transaction" (3 : Nat) ({ cls := "java/lang/Object", name := "<init>", desc := "()V" } : Jvm.MethodName)),
  (Jvm.Cond.fieldLink "WaitedCommits$Transaction" (9 : Nat) "WaitedCommits$Transaction" "state" "I"),
  (Jvm.Cond.fieldLinkNest "WaitedCommits" (93 : Nat) "WaitedCommits$Transaction" "state" "I" "WaitedCommits"),
  (Jvm.Cond.fieldLink "WaitedCommits$Transaction" (15 : Nat) "WaitedCommits$Transaction" "birth" "I"),
  (Jvm.Cond.fieldLinkNest "WaitedCommits" (96 : Nat) "WaitedCommits$Transaction" "birth" "I" "WaitedCommits"),
  (Jvm.Cond.fieldLink "WaitedCommits$Transaction" (18 : Nat) "WaitedCommits$Transaction" "coordinator" "I"),
  (Jvm.Cond.fieldLinkNest "WaitedCommits" (125 : Nat) "WaitedCommits$Transaction" "coordinator" "I" "WaitedCommits"),
  (Jvm.Cond.fieldLink "WaitedCommits$Transaction" (21 : Nat) "WaitedCommits$Transaction" "floor" "I"),
  (Jvm.Cond.fieldLinkNest "WaitedCommits" (191 : Nat) "WaitedCommits$Transaction" "floor" "I" "WaitedCommits"),
  (Jvm.Cond.fieldLink "WaitedCommits$Transaction" (24 : Nat) "WaitedCommits$Transaction" "awaited" "I"),
  (Jvm.Cond.fieldLinkNest "WaitedCommits" (197 : Nat) "WaitedCommits$Transaction" "awaited" "I" "WaitedCommits"),
  (Jvm.Cond.fieldLink "WaitedCommits$Transaction" (27 : Nat) "WaitedCommits$Transaction" "stamp" "I"),
  (Jvm.Cond.fieldLinkNest "WaitedCommits" (156 : Nat) "WaitedCommits$Transaction" "stamp" "I" "WaitedCommits"),
  (Jvm.Cond.fieldLink "WaitedCommits$Transaction" (30 : Nat) "WaitedCommits$Transaction" "end" "I"),
  (Jvm.Cond.fieldLinkNest "WaitedCommits" (159 : Nat) "WaitedCommits$Transaction" "end" "I" "WaitedCommits"),
  (Jvm.Cond.fieldLink "WaitedCommits$Transaction" (33 : Nat) "WaitedCommits$Transaction" "locks" "[I"),
  (Jvm.Cond.fieldLinkNest "WaitedCommits" (111 : Nat) "WaitedCommits$Transaction" "locks" "[I" "WaitedCommits"),
  (Jvm.Cond.fieldLink "WaitedCommits$Transaction" (37 : Nat) "WaitedCommits$Transaction" "written" "[I"),
  (Jvm.Cond.fieldLinkNest "WaitedCommits" (115 : Nat) "WaitedCommits$Transaction" "written" "[I" "WaitedCommits"),
  (Jvm.Cond.fieldLink "WaitedCommits$Transaction" (40 : Nat) "WaitedCommits$Transaction" "marks" "[I"),
  (Jvm.Cond.fieldLinkNest "WaitedCommits" (162 : Nat) "WaitedCommits$Transaction" "marks" "[I" "WaitedCommits"),
  (Jvm.Cond.lays "WaitedCommits$Transaction" "WaitedCommits$Transaction" "state" "I"),
  (Jvm.Cond.lays "WaitedCommits$Transaction" "WaitedCommits$Transaction" "birth" "I"),
  (Jvm.Cond.lays "WaitedCommits$Transaction" "WaitedCommits$Transaction" "coordinator" "I"),
  (Jvm.Cond.lays "WaitedCommits$Transaction" "WaitedCommits$Transaction" "floor" "I"),
  (Jvm.Cond.lays "WaitedCommits$Transaction" "WaitedCommits$Transaction" "awaited" "I"),
  (Jvm.Cond.lays "WaitedCommits$Transaction" "WaitedCommits$Transaction" "stamp" "I"),
  (Jvm.Cond.lays "WaitedCommits$Transaction" "WaitedCommits$Transaction" "end" "I"),
  (Jvm.Cond.laysFinal "WaitedCommits$Transaction" "WaitedCommits$Transaction" "locks" "[I"),
  (Jvm.Cond.laysFinal "WaitedCommits$Transaction" "WaitedCommits$Transaction" "written" "[I"),
  (Jvm.Cond.laysFinal "WaitedCommits$Transaction" "WaitedCommits$Transaction" "marks" "[I"),
  (Jvm.Cond.instantiable "WaitedCommits$Message" (6 : Nat)),
  (Jvm.Cond.methodLinkNest "WaitedCommits" (63 : Nat) ({ cls := "WaitedCommits$Message", name := "<init>", desc := "(II)V" } : Jvm.MethodName) "WaitedCommits"),
  (Jvm.Cond.instanceMethod ({ cls := "WaitedCommits$Message", name := "<init>", desc := "(II)V" } : Jvm.MethodName)),
  (Jvm.Cond.code ({ cls := "WaitedCommits$Message", name := "<init>", desc := "(II)V" } : Jvm.MethodName) prog_3_method_1_code (3 : Nat) (Option.none : Option Jvm.ClassFile.FieldType)),
  (Jvm.Cond.methodLink "WaitedCommits$Message" (3 : Nat) ({ cls := "java/lang/Object", name := "<init>", desc := "()V" } : Jvm.MethodName)),
  (Jvm.Cond.fieldLink "WaitedCommits$Message" (24 : Nat) "WaitedCommits$Message" "transaction" "I"),
  (Jvm.Cond.fieldLinkNest "WaitedCommits" (238 : Nat) "WaitedCommits$Message" "transaction" "I" "WaitedCommits"),
  (Jvm.Cond.fieldLink "WaitedCommits$Message" (27 : Nat) "WaitedCommits$Message" "participant" "I"),
  (Jvm.Cond.fieldLinkNest "WaitedCommits" (241 : Nat) "WaitedCommits$Message" "participant" "I" "WaitedCommits"),
  (Jvm.Cond.fieldLink "WaitedCommits$Message" (9 : Nat) "WaitedCommits$Message" "kind" "I"),
  (Jvm.Cond.fieldLinkNest "WaitedCommits" (211 : Nat) "WaitedCommits$Message" "kind" "I" "WaitedCommits"),
  (Jvm.Cond.fieldLink "WaitedCommits$Message" (15 : Nat) "WaitedCommits$Message" "receiver" "I"),
  (Jvm.Cond.fieldLinkNest "WaitedCommits" (214 : Nat) "WaitedCommits$Message" "receiver" "I" "WaitedCommits"),
  (Jvm.Cond.fieldLink "WaitedCommits$Message" (18 : Nat) "WaitedCommits$Message" "arrival" "I"),
  (Jvm.Cond.fieldLinkNest "WaitedCommits" (217 : Nat) "WaitedCommits$Message" "arrival" "I" "WaitedCommits"),
  (Jvm.Cond.fieldLink "WaitedCommits$Message" (21 : Nat) "WaitedCommits$Message" "order" "I"),
  (Jvm.Cond.fieldLinkNest "WaitedCommits" (220 : Nat) "WaitedCommits$Message" "order" "I" "WaitedCommits"),
  (Jvm.Cond.laysFinal "WaitedCommits$Message" "WaitedCommits$Message" "transaction" "I"),
  (Jvm.Cond.laysFinal "WaitedCommits$Message" "WaitedCommits$Message" "participant" "I"),
  (Jvm.Cond.lays "WaitedCommits$Message" "WaitedCommits$Message" "kind" "I"),
  (Jvm.Cond.lays "WaitedCommits$Message" "WaitedCommits$Message" "receiver" "I"),
  (Jvm.Cond.lays "WaitedCommits$Message" "WaitedCommits$Message" "arrival" "I"),
  (Jvm.Cond.lays "WaitedCommits$Message" "WaitedCommits$Message" "order" "I"),
  (Jvm.Cond.fieldLink "WaitedCommits" (55 : Nat) "WaitedCommits" "greatestError" "I"),
  (Jvm.Cond.fieldLink "WaitedCommits" (11 : Nat) "WaitedCommits" "sites" "[LWaitedCommits$Site;"),
  (Jvm.Cond.fieldLink "WaitedCommits" (17 : Nat) "WaitedCommits" "keys" "[LWaitedCommits$Key;"),
  (Jvm.Cond.fieldLink "WaitedCommits" (23 : Nat) "WaitedCommits" "transactions" "[LWaitedCommits$Transaction;"),
  (Jvm.Cond.fieldLink "WaitedCommits" (29 : Nat) "WaitedCommits" "slots" "[LWaitedCommits$Message;"),
  (Jvm.Cond.fieldLink "WaitedCommits" (33 : Nat) "WaitedCommits" "time" "I"),
  (Jvm.Cond.fieldLink "WaitedCommits" (37 : Nat) "WaitedCommits" "begun" "I"),
  (Jvm.Cond.fieldLink "WaitedCommits" (40 : Nat) "WaitedCommits" "sent" "I"),
  (Jvm.Cond.fieldLink "WaitedCommits" (43 : Nat) "WaitedCommits" "underWay" "I"),
  (Jvm.Cond.laysFinal "WaitedCommits" "WaitedCommits" "greatestError" "I"),
  (Jvm.Cond.laysFinal "WaitedCommits" "WaitedCommits" "sites" "[LWaitedCommits$Site;"),
  (Jvm.Cond.laysFinal "WaitedCommits" "WaitedCommits" "keys" "[LWaitedCommits$Key;"),
  (Jvm.Cond.laysFinal "WaitedCommits" "WaitedCommits" "transactions" "[LWaitedCommits$Transaction;"),
  (Jvm.Cond.laysFinal "WaitedCommits" "WaitedCommits" "slots" "[LWaitedCommits$Message;"),
  (Jvm.Cond.lays "WaitedCommits" "WaitedCommits" "time" "I"),
  (Jvm.Cond.lays "WaitedCommits" "WaitedCommits" "begun" "I"),
  (Jvm.Cond.lays "WaitedCommits" "WaitedCommits" "sent" "I"),
  (Jvm.Cond.lays "WaitedCommits" "WaitedCommits" "underWay" "I"),
  (Jvm.Cond.methodLink "WaitedCommitsLaw" (21 : Nat) ({ cls := "WaitedCommits", name := "clock", desc := "(III)Z" } : Jvm.MethodName)),
  (Jvm.Cond.instanceMethod ({ cls := "WaitedCommits", name := "clock", desc := "(III)Z" } : Jvm.MethodName)),
  (Jvm.Cond.selects "WaitedCommits" ({ cls := "WaitedCommits", name := "clock", desc := "(III)Z" } : Jvm.MethodName) ({ cls := "WaitedCommits", name := "clock", desc := "(III)Z" } : Jvm.MethodName)),
  (Jvm.Cond.code ({ cls := "WaitedCommits", name := "clock", desc := "(III)Z" } : Jvm.MethodName) prog_1_method_2_code (4 : Nat) (Option.some Jvm.ClassFile.FieldType.boolean)),
  (Jvm.Cond.methodLink "WaitedCommits" (66 : Nat) ({ cls := "WaitedCommits", name := "isSite", desc := "(I)Z" } : Jvm.MethodName)),
  (Jvm.Cond.static ({ cls := "WaitedCommits", name := "isSite", desc := "(I)Z" } : Jvm.MethodName)),
  (Jvm.Cond.code ({ cls := "WaitedCommits", name := "isSite", desc := "(I)Z" } : Jvm.MethodName) prog_1_method_22_code (1 : Nat) (Option.some Jvm.ClassFile.FieldType.boolean)),
  (Jvm.Cond.methodLink "WaitedCommits" (70 : Nat) ({ cls := "WaitedCommits", name := "isError", desc := "(I)Z" } : Jvm.MethodName)),
  (Jvm.Cond.instanceMethod ({ cls := "WaitedCommits", name := "isError", desc := "(I)Z" } : Jvm.MethodName)),
  (Jvm.Cond.code ({ cls := "WaitedCommits", name := "isError", desc := "(I)Z" } : Jvm.MethodName) prog_1_method_27_code (2 : Nat) (Option.some Jvm.ClassFile.FieldType.boolean)),
  (Jvm.Cond.methodLink "WaitedCommitsLaw" (26 : Nat) ({ cls := "WaitedCommits", name := "delay", desc := "(II)Z" } : Jvm.MethodName)),
  (Jvm.Cond.instanceMethod ({ cls := "WaitedCommits", name := "delay", desc := "(II)Z" } : Jvm.MethodName)),
  (Jvm.Cond.selects "WaitedCommits" ({ cls := "WaitedCommits", name := "delay", desc := "(II)Z" } : Jvm.MethodName) ({ cls := "WaitedCommits", name := "delay", desc := "(II)Z" } : Jvm.MethodName)),
  (Jvm.Cond.code ({ cls := "WaitedCommits", name := "delay", desc := "(II)Z" } : Jvm.MethodName) prog_1_method_3_code (3 : Nat) (Option.some Jvm.ClassFile.FieldType.boolean)),
  (Jvm.Cond.methodLink "WaitedCommitsLaw" (31 : Nat) ({ cls := "WaitedCommits", name := "power", desc := "(IZ)Z" } : Jvm.MethodName)),
  (Jvm.Cond.instanceMethod ({ cls := "WaitedCommits", name := "power", desc := "(IZ)Z" } : Jvm.MethodName)),
  (Jvm.Cond.selects "WaitedCommits" ({ cls := "WaitedCommits", name := "power", desc := "(IZ)Z" } : Jvm.MethodName) ({ cls := "WaitedCommits", name := "power", desc := "(IZ)Z" } : Jvm.MethodName)),
  (Jvm.Cond.code ({ cls := "WaitedCommits", name := "power", desc := "(IZ)Z" } : Jvm.MethodName) prog_1_method_4_code (3 : Nat) (Option.some Jvm.ClassFile.FieldType.boolean)),
  (Jvm.Cond.methodLink "WaitedCommitsLaw" (36 : Nat) ({ cls := "WaitedCommits", name := "begin", desc := "(I)Z" } : Jvm.MethodName)),
  (Jvm.Cond.instanceMethod ({ cls := "WaitedCommits", name := "begin", desc := "(I)Z" } : Jvm.MethodName)),
  (Jvm.Cond.selects "WaitedCommits" ({ cls := "WaitedCommits", name := "begin", desc := "(I)Z" } : Jvm.MethodName) ({ cls := "WaitedCommits", name := "begin", desc := "(I)Z" } : Jvm.MethodName)),
  (Jvm.Cond.code ({ cls := "WaitedCommits", name := "begin", desc := "(I)Z" } : Jvm.MethodName) prog_1_method_5_code (2 : Nat) (Option.some Jvm.ClassFile.FieldType.boolean)),
  (Jvm.Cond.methodLink "WaitedCommits" (86 : Nat) ({ cls := "WaitedCommits", name := "isTransaction", desc := "(I)Z" } : Jvm.MethodName)),
  (Jvm.Cond.static ({ cls := "WaitedCommits", name := "isTransaction", desc := "(I)Z" } : Jvm.MethodName)),
  (Jvm.Cond.code ({ cls := "WaitedCommits", name := "isTransaction", desc := "(I)Z" } : Jvm.MethodName) prog_1_method_24_code (1 : Nat) (Option.some Jvm.ClassFile.FieldType.boolean)),
  (Jvm.Cond.methodLink "WaitedCommits" (89 : Nat) ({ cls := "WaitedCommits", name := "canBegin", desc := "(LWaitedCommits$Transaction;)Z" } : Jvm.MethodName)),
  (Jvm.Cond.static ({ cls := "WaitedCommits", name := "canBegin", desc := "(LWaitedCommits$Transaction;)Z" } : Jvm.MethodName)),
  (Jvm.Cond.code ({ cls := "WaitedCommits", name := "canBegin", desc := "(LWaitedCommits$Transaction;)Z" } : Jvm.MethodName) prog_1_method_26_code (2 : Nat) (Option.some Jvm.ClassFile.FieldType.boolean)),
  (Jvm.Cond.methodLinkNest "WaitedCommits" (121 : Nat) ({ cls := "WaitedCommits$Transaction", name := "leastParticipant", desc := "()I" } : Jvm.MethodName) "WaitedCommits"),
  (Jvm.Cond.instanceMethod ({ cls := "WaitedCommits$Transaction", name := "leastParticipant", desc := "()I" } : Jvm.MethodName)),
  (Jvm.Cond.code ({ cls := "WaitedCommits$Transaction", name := "leastParticipant", desc := "()I" } : Jvm.MethodName) prog_5_method_3_code (2 : Nat) (Option.some Jvm.ClassFile.FieldType.int)),
  (Jvm.Cond.methodLink "WaitedCommits$Transaction" (43 : Nat) ({ cls := "WaitedCommits$Transaction", name := "holdsAt", desc := "(I)Z" } : Jvm.MethodName)),
  (Jvm.Cond.instanceMethod ({ cls := "WaitedCommits$Transaction", name := "holdsAt", desc := "(I)Z" } : Jvm.MethodName)),
  (Jvm.Cond.code ({ cls := "WaitedCommits$Transaction", name := "holdsAt", desc := "(I)Z" } : Jvm.MethodName) prog_5_method_2_code (3 : Nat) (Option.some Jvm.ClassFile.FieldType.boolean)),
  (Jvm.Cond.methodLink "WaitedCommitsLaw" (41 : Nat) ({ cls := "WaitedCommits", name := "read", desc := "(II)J" } : Jvm.MethodName)),
  (Jvm.Cond.instanceMethod ({ cls := "WaitedCommits", name := "read", desc := "(II)J" } : Jvm.MethodName)),
  (Jvm.Cond.selects "WaitedCommits" ({ cls := "WaitedCommits", name := "read", desc := "(II)J" } : Jvm.MethodName) ({ cls := "WaitedCommits", name := "read", desc := "(II)J" } : Jvm.MethodName)),
  (Jvm.Cond.code ({ cls := "WaitedCommits", name := "read", desc := "(II)J" } : Jvm.MethodName) prog_1_method_6_code (3 : Nat) (Option.some Jvm.ClassFile.FieldType.long)),
  (Jvm.Cond.methodLink "WaitedCommits" (99 : Nat) ({ cls := "WaitedCommits", name := "isActive", desc := "(I)Z" } : Jvm.MethodName)),
  (Jvm.Cond.instanceMethod ({ cls := "WaitedCommits", name := "isActive", desc := "(I)Z" } : Jvm.MethodName)),
  (Jvm.Cond.code ({ cls := "WaitedCommits", name := "isActive", desc := "(I)Z" } : Jvm.MethodName) prog_1_method_28_code (2 : Nat) (Option.some Jvm.ClassFile.FieldType.boolean)),
  (Jvm.Cond.methodLink "WaitedCommits" (102 : Nat) ({ cls := "WaitedCommits", name := "isKey", desc := "(I)Z" } : Jvm.MethodName)),
  (Jvm.Cond.static ({ cls := "WaitedCommits", name := "isKey", desc := "(I)Z" } : Jvm.MethodName)),
  (Jvm.Cond.code ({ cls := "WaitedCommits", name := "isKey", desc := "(I)Z" } : Jvm.MethodName) prog_1_method_23_code (1 : Nat) (Option.some Jvm.ClassFile.FieldType.boolean)),
  (Jvm.Cond.methodLink "WaitedCommits" (105 : Nat) ({ cls := "WaitedCommits", name := "lock", desc := "(LWaitedCommits$Transaction;II)Z" } : Jvm.MethodName)),
  (Jvm.Cond.instanceMethod ({ cls := "WaitedCommits", name := "lock", desc := "(LWaitedCommits$Transaction;II)Z" } : Jvm.MethodName)),
  (Jvm.Cond.code ({ cls := "WaitedCommits", name := "lock", desc := "(LWaitedCommits$Transaction;II)Z" } : Jvm.MethodName) prog_1_method_33_code (5 : Nat) (Option.some Jvm.ClassFile.FieldType.boolean)),
  (Jvm.Cond.methodLink "WaitedCommits" (134 : Nat) ({ cls := "WaitedCommits", name := "siteOf", desc := "(I)I" } : Jvm.MethodName)),
  (Jvm.Cond.static ({ cls := "WaitedCommits", name := "siteOf", desc := "(I)I" } : Jvm.MethodName)),
  (Jvm.Cond.code ({ cls := "WaitedCommits", name := "siteOf", desc := "(I)I" } : Jvm.MethodName) prog_1_method_25_code (1 : Nat) (Option.some Jvm.ClassFile.FieldType.int)),
  (Jvm.Cond.methodLink "WaitedCommits" (183 : Nat) ({ cls := "WaitedCommits", name := "conflicts", desc := "(LWaitedCommits$Transaction;LWaitedCommits$Transaction;II)Z" } : Jvm.MethodName)),
  (Jvm.Cond.static ({ cls := "WaitedCommits", name := "conflicts", desc := "(LWaitedCommits$Transaction;LWaitedCommits$Transaction;II)Z" } : Jvm.MethodName)),
  (Jvm.Cond.code ({ cls := "WaitedCommits", name := "conflicts", desc := "(LWaitedCommits$Transaction;LWaitedCommits$Transaction;II)Z" } : Jvm.MethodName) prog_1_method_34_code (4 : Nat) (Option.some Jvm.ClassFile.FieldType.boolean)),
  (Jvm.Cond.methodLink "WaitedCommits" (187 : Nat) ({ cls := "WaitedCommits", name := "canPushAside", desc := "(LWaitedCommits$Transaction;LWaitedCommits$Transaction;)Z" } : Jvm.MethodName)),
  (Jvm.Cond.static ({ cls := "WaitedCommits", name := "canPushAside", desc := "(LWaitedCommits$Transaction;LWaitedCommits$Transaction;)Z" } : Jvm.MethodName)),
  (Jvm.Cond.code ({ cls := "WaitedCommits", name := "canPushAside", desc := "(LWaitedCommits$Transaction;LWaitedCommits$Transaction;)Z" } : Jvm.MethodName) prog_1_method_35_code (2 : Nat) (Option.some Jvm.ClassFile.FieldType.boolean)),
  (Jvm.Cond.methodLinkNest "WaitedCommits" (131 : Nat) ({ cls := "WaitedCommits$Transaction", name := "giveUp", desc := "()V" } : Jvm.MethodName) "WaitedCommits"),
  (Jvm.Cond.instanceMethod ({ cls := "WaitedCommits$Transaction", name := "giveUp", desc := "()V" } : Jvm.MethodName)),
  (Jvm.Cond.code ({ cls := "WaitedCommits$Transaction", name := "giveUp", desc := "()V" } : Jvm.MethodName) prog_5_method_5_code (2 : Nat) (Option.none : Option Jvm.ClassFile.FieldType)),
  (Jvm.Cond.methodLink "WaitedCommits$Transaction" (47 : Nat) ({ cls := "WaitedCommits$Transaction", name := "unlockAt", desc := "(I)V" } : Jvm.MethodName)),
  (Jvm.Cond.instanceMethod ({ cls := "WaitedCommits$Transaction", name := "unlockAt", desc := "(I)V" } : Jvm.MethodName)),
  (Jvm.Cond.code ({ cls := "WaitedCommits$Transaction", name := "unlockAt", desc := "(I)V" } : Jvm.MethodName) prog_5_method_4_code (3 : Nat) (Option.none : Option Jvm.ClassFile.FieldType)),
  (Jvm.Cond.constantLong "WaitedCommits" (109 : Nat) (1099511627776 : Int64)),
  (Jvm.Cond.methodLink "WaitedCommitsLaw" (46 : Nat) ({ cls := "WaitedCommits", name := "write", desc := "(III)Z" } : Jvm.MethodName)),
  (Jvm.Cond.instanceMethod ({ cls := "WaitedCommits", name := "write", desc := "(III)Z" } : Jvm.MethodName)),
  (Jvm.Cond.selects "WaitedCommits" ({ cls := "WaitedCommits", name := "write", desc := "(III)Z" } : Jvm.MethodName) ({ cls := "WaitedCommits", name := "write", desc := "(III)Z" } : Jvm.MethodName)),
  (Jvm.Cond.code ({ cls := "WaitedCommits", name := "write", desc := "(III)Z" } : Jvm.MethodName) prog_1_method_7_code (4 : Nat) (Option.some Jvm.ClassFile.FieldType.boolean)),
  (Jvm.Cond.methodLink "WaitedCommitsLaw" (50 : Nat) ({ cls := "WaitedCommits", name := "commit", desc := "(I)Z" } : Jvm.MethodName)),
  (Jvm.Cond.instanceMethod ({ cls := "WaitedCommits", name := "commit", desc := "(I)Z" } : Jvm.MethodName)),
  (Jvm.Cond.selects "WaitedCommits" ({ cls := "WaitedCommits", name := "commit", desc := "(I)Z" } : Jvm.MethodName) ({ cls := "WaitedCommits", name := "commit", desc := "(I)Z" } : Jvm.MethodName)),
  (Jvm.Cond.code ({ cls := "WaitedCommits", name := "commit", desc := "(I)Z" } : Jvm.MethodName) prog_1_method_8_code (3 : Nat) (Option.some Jvm.ClassFile.FieldType.boolean)),
  (Jvm.Cond.methodLink "WaitedCommits" (128 : Nat) ({ cls := "WaitedCommits", name := "prepare", desc := "(I)V" } : Jvm.MethodName)),
  (Jvm.Cond.instanceMethod ({ cls := "WaitedCommits", name := "prepare", desc := "(I)V" } : Jvm.MethodName)),
  (Jvm.Cond.code ({ cls := "WaitedCommits", name := "prepare", desc := "(I)V" } : Jvm.MethodName) prog_1_method_36_code (3 : Nat) (Option.none : Option Jvm.ClassFile.FieldType)),
  (Jvm.Cond.methodLink "WaitedCommits" (180 : Nat) ({ cls := "WaitedCommits", name := "latest", desc := "(I)I" } : Jvm.MethodName)),
  (Jvm.Cond.instanceMethod ({ cls := "WaitedCommits", name := "latest", desc := "(I)I" } : Jvm.MethodName)),
  (Jvm.Cond.code ({ cls := "WaitedCommits", name := "latest", desc := "(I)I" } : Jvm.MethodName) prog_1_method_29_code (2 : Nat) (Option.some Jvm.ClassFile.FieldType.int)),
  (Jvm.Cond.methodLink "WaitedCommits" (194 : Nat) ({ cls := "WaitedCommits", name := "sendToOthers", desc := "(II)I" } : Jvm.MethodName)),
  (Jvm.Cond.instanceMethod ({ cls := "WaitedCommits", name := "sendToOthers", desc := "(II)I" } : Jvm.MethodName)),
  (Jvm.Cond.code ({ cls := "WaitedCommits", name := "sendToOthers", desc := "(II)I" } : Jvm.MethodName) prog_1_method_37_code (6 : Nat) (Option.some Jvm.ClassFile.FieldType.int)),
  (Jvm.Cond.methodLinkNest "WaitedCommits" (204 : Nat) ({ cls := "WaitedCommits$Transaction", name := "holdsAt", desc := "(I)Z" } : Jvm.MethodName) "WaitedCommits"),
  (Jvm.Cond.methodLink "WaitedCommits" (207 : Nat) ({ cls := "WaitedCommits", name := "send", desc := "(III)V" } : Jvm.MethodName)),
  (Jvm.Cond.instanceMethod ({ cls := "WaitedCommits", name := "send", desc := "(III)V" } : Jvm.MethodName)),
  (Jvm.Cond.code ({ cls := "WaitedCommits", name := "send", desc := "(III)V" } : Jvm.MethodName) prog_1_method_38_code (6 : Nat) (Option.none : Option Jvm.ClassFile.FieldType)),
  (Jvm.Cond.methodLink "WaitedCommits" (200 : Nat) ({ cls := "WaitedCommits", name := "chooseStamp", desc := "(LWaitedCommits$Transaction;)V" } : Jvm.MethodName)),
  (Jvm.Cond.instanceMethod ({ cls := "WaitedCommits", name := "chooseStamp", desc := "(LWaitedCommits$Transaction;)V" } : Jvm.MethodName)),
  (Jvm.Cond.code ({ cls := "WaitedCommits", name := "chooseStamp", desc := "(LWaitedCommits$Transaction;)V" } : Jvm.MethodName) prog_1_method_45_code (3 : Nat) (Option.none : Option Jvm.ClassFile.FieldType)),
  (Jvm.Cond.methodLinkNest "WaitedCommits" (254 : Nat) ({ cls := "WaitedCommits$Transaction", name := "greatestMark", desc := "()I" } : Jvm.MethodName) "WaitedCommits"),
  (Jvm.Cond.instanceMethod ({ cls := "WaitedCommits$Transaction", name := "greatestMark", desc := "()I" } : Jvm.MethodName)),
  (Jvm.Cond.code ({ cls := "WaitedCommits$Transaction", name := "greatestMark", desc := "()I" } : Jvm.MethodName) prog_5_method_6_code (3 : Nat) (Option.some Jvm.ClassFile.FieldType.int)),
  (Jvm.Cond.methodLink "WaitedCommits$Transaction" (51 : Nat) ({ cls := "java/lang/Math", name := "max", desc := "(II)I" } : Jvm.MethodName)),
  (Jvm.Cond.methodLink "WaitedCommitsLaw" (54 : Nat) ({ cls := "WaitedCommits", name := "abort", desc := "(I)Z" } : Jvm.MethodName)),
  (Jvm.Cond.instanceMethod ({ cls := "WaitedCommits", name := "abort", desc := "(I)Z" } : Jvm.MethodName)),
  (Jvm.Cond.selects "WaitedCommits" ({ cls := "WaitedCommits", name := "abort", desc := "(I)Z" } : Jvm.MethodName) ({ cls := "WaitedCommits", name := "abort", desc := "(I)Z" } : Jvm.MethodName)),
  (Jvm.Cond.code ({ cls := "WaitedCommits", name := "abort", desc := "(I)Z" } : Jvm.MethodName) prog_1_method_9_code (2 : Nat) (Option.some Jvm.ClassFile.FieldType.boolean)),
  (Jvm.Cond.methodLink "WaitedCommitsLaw" (58 : Nat) ({ cls := "WaitedCommits", name := "readAt", desc := "(II)J" } : Jvm.MethodName)),
  (Jvm.Cond.instanceMethod ({ cls := "WaitedCommits", name := "readAt", desc := "(II)J" } : Jvm.MethodName)),
  (Jvm.Cond.selects "WaitedCommits" ({ cls := "WaitedCommits", name := "readAt", desc := "(II)J" } : Jvm.MethodName) ({ cls := "WaitedCommits", name := "readAt", desc := "(II)J" } : Jvm.MethodName)),
  (Jvm.Cond.code ({ cls := "WaitedCommits", name := "readAt", desc := "(II)J" } : Jvm.MethodName) prog_1_method_10_code (3 : Nat) (Option.some Jvm.ClassFile.FieldType.long)),
  (Jvm.Cond.methodLink "WaitedCommits" (138 : Nat) ({ cls := "WaitedCommits", name := "greatestReadyTime", desc := "(I)I" } : Jvm.MethodName)),
  (Jvm.Cond.instanceMethod ({ cls := "WaitedCommits", name := "greatestReadyTime", desc := "(I)I" } : Jvm.MethodName)),
  (Jvm.Cond.code ({ cls := "WaitedCommits", name := "greatestReadyTime", desc := "(I)I" } : Jvm.MethodName) prog_1_method_32_code (2 : Nat) (Option.some Jvm.ClassFile.FieldType.int)),
  (Jvm.Cond.methodLink "WaitedCommits" (165 : Nat) ({ cls := "WaitedCommits", name := "leastMark", desc := "(I)I" } : Jvm.MethodName)),
  (Jvm.Cond.instanceMethod ({ cls := "WaitedCommits", name := "leastMark", desc := "(I)I" } : Jvm.MethodName)),
  (Jvm.Cond.code ({ cls := "WaitedCommits", name := "leastMark", desc := "(I)I" } : Jvm.MethodName) prog_1_method_31_code (4 : Nat) (Option.some Jvm.ClassFile.FieldType.int)),
  (Jvm.Cond.constant "WaitedCommits" (179 : Nat) (2147483647 : Int32)),
  (Jvm.Cond.methodLinkNest "WaitedCommits" (141 : Nat) ({ cls := "WaitedCommits$Site", name := "raiseBound", desc := "(I)V" } : Jvm.MethodName) "WaitedCommits"),
  (Jvm.Cond.instanceMethod ({ cls := "WaitedCommits$Site", name := "raiseBound", desc := "(I)V" } : Jvm.MethodName)),
  (Jvm.Cond.code ({ cls := "WaitedCommits$Site", name := "raiseBound", desc := "(I)V" } : Jvm.MethodName) prog_4_method_2_code (2 : Nat) (Option.none : Option Jvm.ClassFile.FieldType)),
  (Jvm.Cond.methodLink "WaitedCommits$Site" (26 : Nat) ({ cls := "java/lang/Math", name := "max", desc := "(II)I" } : Jvm.MethodName)),
  (Jvm.Cond.methodLinkNest "WaitedCommits" (144 : Nat) ({ cls := "WaitedCommits$Key", name := "valueAt", desc := "(I)J" } : Jvm.MethodName) "WaitedCommits"),
  (Jvm.Cond.instanceMethod ({ cls := "WaitedCommits$Key", name := "valueAt", desc := "(I)J" } : Jvm.MethodName)),
  (Jvm.Cond.code ({ cls := "WaitedCommits$Key", name := "valueAt", desc := "(I)J" } : Jvm.MethodName) prog_2_method_3_code (3 : Nat) (Option.some Jvm.ClassFile.FieldType.long)),
  (Jvm.Cond.constantLong "WaitedCommits$Key" (28 : Nat) (2199023255552 : Int64)),
  (Jvm.Cond.methodLink "WaitedCommitsLaw" (62 : Nat) ({ cls := "WaitedCommits", name := "step", desc := "(I)I" } : Jvm.MethodName)),
  (Jvm.Cond.instanceMethod ({ cls := "WaitedCommits", name := "step", desc := "(I)I" } : Jvm.MethodName)),
  (Jvm.Cond.selects "WaitedCommits" ({ cls := "WaitedCommits", name := "step", desc := "(I)I" } : Jvm.MethodName) ({ cls := "WaitedCommits", name := "step", desc := "(I)I" } : Jvm.MethodName)),
  (Jvm.Cond.code ({ cls := "WaitedCommits", name := "step", desc := "(I)I" } : Jvm.MethodName) prog_1_method_11_code (4 : Nat) (Option.some Jvm.ClassFile.FieldType.int)),
  (Jvm.Cond.methodLink "WaitedCommits" (148 : Nat) ({ cls := "WaitedCommits", name := "deliverMessages", desc := "()V" } : Jvm.MethodName)),
  (Jvm.Cond.instanceMethod ({ cls := "WaitedCommits", name := "deliverMessages", desc := "()V" } : Jvm.MethodName)),
  (Jvm.Cond.code ({ cls := "WaitedCommits", name := "deliverMessages", desc := "()V" } : Jvm.MethodName) prog_1_method_39_code (3 : Nat) (Option.none : Option Jvm.ClassFile.FieldType)),
  (Jvm.Cond.methodLink "WaitedCommits" (223 : Nat) ({ cls := "WaitedCommits", name := "firstDue", desc := "()LWaitedCommits$Message;" } : Jvm.MethodName)),
  (Jvm.Cond.instanceMethod ({ cls := "WaitedCommits", name := "firstDue", desc := "()LWaitedCommits$Message;" } : Jvm.MethodName)),
  (Jvm.Cond.code ({ cls := "WaitedCommits", name := "firstDue", desc := "()LWaitedCommits$Message;" } : Jvm.MethodName) prog_1_method_40_code (3 : Nat) (Option.some (Jvm.ClassFile.FieldType.object "WaitedCommits$Message"))),
  (Jvm.Cond.methodLink "WaitedCommits" (231 : Nat) ({ cls := "WaitedCommits", name := "isDue", desc := "(LWaitedCommits$Message;)Z" } : Jvm.MethodName)),
  (Jvm.Cond.instanceMethod ({ cls := "WaitedCommits", name := "isDue", desc := "(LWaitedCommits$Message;)Z" } : Jvm.MethodName)),
  (Jvm.Cond.code ({ cls := "WaitedCommits", name := "isDue", desc := "(LWaitedCommits$Message;)Z" } : Jvm.MethodName) prog_1_method_41_code (2 : Nat) (Option.some Jvm.ClassFile.FieldType.boolean)),
  (Jvm.Cond.methodLinkNest "WaitedCommits" (235 : Nat) ({ cls := "WaitedCommits$Message", name := "comesBefore", desc := "(LWaitedCommits$Message;)Z" } : Jvm.MethodName) "WaitedCommits"),
  (Jvm.Cond.instanceMethod ({ cls := "WaitedCommits$Message", name := "comesBefore", desc := "(LWaitedCommits$Message;)Z" } : Jvm.MethodName)),
  (Jvm.Cond.code ({ cls := "WaitedCommits$Message", name := "comesBefore", desc := "(LWaitedCommits$Message;)Z" } : Jvm.MethodName) prog_3_method_2_code (2 : Nat) (Option.some Jvm.ClassFile.FieldType.boolean)),
  (Jvm.Cond.methodLink "WaitedCommits" (227 : Nat) ({ cls := "WaitedCommits", name := "dealWith", desc := "(LWaitedCommits$Message;)V" } : Jvm.MethodName)),
  (Jvm.Cond.instanceMethod ({ cls := "WaitedCommits", name := "dealWith", desc := "(LWaitedCommits$Message;)V" } : Jvm.MethodName)),
  (Jvm.Cond.code ({ cls := "WaitedCommits", name := "dealWith", desc := "(LWaitedCommits$Message;)V" } : Jvm.MethodName) prog_1_method_42_code (3 : Nat) (Option.none : Option Jvm.ClassFile.FieldType)),
  (Jvm.Cond.methodLink "WaitedCommits" (244 : Nat) ({ cls := "WaitedCommits", name := "takePrepare", desc := "(II)V" } : Jvm.MethodName)),
  (Jvm.Cond.instanceMethod ({ cls := "WaitedCommits", name := "takePrepare", desc := "(II)V" } : Jvm.MethodName)),
  (Jvm.Cond.code ({ cls := "WaitedCommits", name := "takePrepare", desc := "(II)V" } : Jvm.MethodName) prog_1_method_43_code (4 : Nat) (Option.none : Option Jvm.ClassFile.FieldType)),
  (Jvm.Cond.methodLink "WaitedCommits" (247 : Nat) ({ cls := "WaitedCommits", name := "takePrepared", desc := "(LWaitedCommits$Transaction;)V" } : Jvm.MethodName)),
  (Jvm.Cond.instanceMethod ({ cls := "WaitedCommits", name := "takePrepared", desc := "(LWaitedCommits$Transaction;)V" } : Jvm.MethodName)),
  (Jvm.Cond.code ({ cls := "WaitedCommits", name := "takePrepared", desc := "(LWaitedCommits$Transaction;)V" } : Jvm.MethodName) prog_1_method_44_code (2 : Nat) (Option.none : Option Jvm.ClassFile.FieldType)),
  (Jvm.Cond.methodLink "WaitedCommits" (250 : Nat) ({ cls := "WaitedCommits", name := "finishAt", desc := "(LWaitedCommits$Transaction;I)V" } : Jvm.MethodName)),
  (Jvm.Cond.instanceMethod ({ cls := "WaitedCommits", name := "finishAt", desc := "(LWaitedCommits$Transaction;I)V" } : Jvm.MethodName)),
  (Jvm.Cond.code ({ cls := "WaitedCommits", name := "finishAt", desc := "(LWaitedCommits$Transaction;I)V" } : Jvm.MethodName) prog_1_method_49_code (4 : Nat) (Option.none : Option Jvm.ClassFile.FieldType)),
  (Jvm.Cond.methodLinkNest "WaitedCommits" (266 : Nat) ({ cls := "WaitedCommits$Key", name := "add", desc := "(II)V" } : Jvm.MethodName) "WaitedCommits"),
  (Jvm.Cond.instanceMethod ({ cls := "WaitedCommits$Key", name := "add", desc := "(II)V" } : Jvm.MethodName)),
  (Jvm.Cond.code ({ cls := "WaitedCommits$Key", name := "add", desc := "(II)V" } : Jvm.MethodName) prog_2_method_2_code (4 : Nat) (Option.none : Option Jvm.ClassFile.FieldType)),
  (Jvm.Cond.methodLink "WaitedCommits$Key" (22 : Nat) ({ cls := "java/lang/Math", name := "min", desc := "(II)I" } : Jvm.MethodName)),
  (Jvm.Cond.methodLinkNest "WaitedCommits" (269 : Nat) ({ cls := "WaitedCommits$Transaction", name := "unlockAt", desc := "(I)V" } : Jvm.MethodName) "WaitedCommits"),
  (Jvm.Cond.methodLink "WaitedCommits" (151 : Nat) ({ cls := "WaitedCommits", name := "endWaiting", desc := "()I" } : Jvm.MethodName)),
  (Jvm.Cond.instanceMethod ({ cls := "WaitedCommits", name := "endWaiting", desc := "()I" } : Jvm.MethodName)),
  (Jvm.Cond.code ({ cls := "WaitedCommits", name := "endWaiting", desc := "()I" } : Jvm.MethodName) prog_1_method_46_code (3 : Nat) (Option.some Jvm.ClassFile.FieldType.int)),
  (Jvm.Cond.methodLink "WaitedCommits" (257 : Nat) ({ cls := "WaitedCommits", name := "mayEnd", desc := "(LWaitedCommits$Transaction;)Z" } : Jvm.MethodName)),
  (Jvm.Cond.instanceMethod ({ cls := "WaitedCommits", name := "mayEnd", desc := "(LWaitedCommits$Transaction;)Z" } : Jvm.MethodName)),
  (Jvm.Cond.code ({ cls := "WaitedCommits", name := "mayEnd", desc := "(LWaitedCommits$Transaction;)Z" } : Jvm.MethodName) prog_1_method_47_code (2 : Nat) (Option.some Jvm.ClassFile.FieldType.boolean)),
  (Jvm.Cond.methodLink "WaitedCommits" (263 : Nat) ({ cls := "WaitedCommits", name := "earliest", desc := "(I)I" } : Jvm.MethodName)),
  (Jvm.Cond.instanceMethod ({ cls := "WaitedCommits", name := "earliest", desc := "(I)I" } : Jvm.MethodName)),
  (Jvm.Cond.code ({ cls := "WaitedCommits", name := "earliest", desc := "(I)I" } : Jvm.MethodName) prog_1_method_30_code (2 : Nat) (Option.some Jvm.ClassFile.FieldType.int)),
  (Jvm.Cond.methodLink "WaitedCommits" (260 : Nat) ({ cls := "WaitedCommits", name := "endOne", desc := "(I)V" } : Jvm.MethodName)),
  (Jvm.Cond.instanceMethod ({ cls := "WaitedCommits", name := "endOne", desc := "(I)V" } : Jvm.MethodName)),
  (Jvm.Cond.code ({ cls := "WaitedCommits", name := "endOne", desc := "(I)V" } : Jvm.MethodName) prog_1_method_48_code (3 : Nat) (Option.none : Option Jvm.ClassFile.FieldType)),
  (Jvm.Cond.methodLink "WaitedCommitsLaw" (67 : Nat) ({ cls := "WaitedCommits", name := "now", desc := "()I" } : Jvm.MethodName)),
  (Jvm.Cond.instanceMethod ({ cls := "WaitedCommits", name := "now", desc := "()I" } : Jvm.MethodName)),
  (Jvm.Cond.selects "WaitedCommits" ({ cls := "WaitedCommits", name := "now", desc := "()I" } : Jvm.MethodName) ({ cls := "WaitedCommits", name := "now", desc := "()I" } : Jvm.MethodName)),
  (Jvm.Cond.code ({ cls := "WaitedCommits", name := "now", desc := "()I" } : Jvm.MethodName) prog_1_method_12_code (1 : Nat) (Option.some Jvm.ClassFile.FieldType.int)),
  (Jvm.Cond.methodLink "WaitedCommitsLaw" (72 : Nat) ({ cls := "WaitedCommits", name := "state", desc := "(I)I" } : Jvm.MethodName)),
  (Jvm.Cond.instanceMethod ({ cls := "WaitedCommits", name := "state", desc := "(I)I" } : Jvm.MethodName)),
  (Jvm.Cond.selects "WaitedCommits" ({ cls := "WaitedCommits", name := "state", desc := "(I)I" } : Jvm.MethodName) ({ cls := "WaitedCommits", name := "state", desc := "(I)I" } : Jvm.MethodName)),
  (Jvm.Cond.code ({ cls := "WaitedCommits", name := "state", desc := "(I)I" } : Jvm.MethodName) prog_1_method_13_code (2 : Nat) (Option.some Jvm.ClassFile.FieldType.int)),
  (Jvm.Cond.methodLink "WaitedCommitsLaw" (76 : Nat) ({ cls := "WaitedCommits", name := "stamp", desc := "(I)I" } : Jvm.MethodName)),
  (Jvm.Cond.instanceMethod ({ cls := "WaitedCommits", name := "stamp", desc := "(I)I" } : Jvm.MethodName)),
  (Jvm.Cond.selects "WaitedCommits" ({ cls := "WaitedCommits", name := "stamp", desc := "(I)I" } : Jvm.MethodName) ({ cls := "WaitedCommits", name := "stamp", desc := "(I)I" } : Jvm.MethodName)),
  (Jvm.Cond.code ({ cls := "WaitedCommits", name := "stamp", desc := "(I)I" } : Jvm.MethodName) prog_1_method_14_code (3 : Nat) (Option.some Jvm.ClassFile.FieldType.int)),
  (Jvm.Cond.methodLink "WaitedCommits" (154 : Nat) ({ cls := "WaitedCommits", name := "state", desc := "(I)I" } : Jvm.MethodName)),
  (Jvm.Cond.methodLink "WaitedCommitsLaw" (80 : Nat) ({ cls := "WaitedCommits", name := "end", desc := "(I)I" } : Jvm.MethodName)),
  (Jvm.Cond.instanceMethod ({ cls := "WaitedCommits", name := "end", desc := "(I)I" } : Jvm.MethodName)),
  (Jvm.Cond.selects "WaitedCommits" ({ cls := "WaitedCommits", name := "end", desc := "(I)I" } : Jvm.MethodName) ({ cls := "WaitedCommits", name := "end", desc := "(I)I" } : Jvm.MethodName)),
  (Jvm.Cond.code ({ cls := "WaitedCommits", name := "end", desc := "(I)I" } : Jvm.MethodName) prog_1_method_15_code (2 : Nat) (Option.some Jvm.ClassFile.FieldType.int)),
  (Jvm.Cond.methodLink "WaitedCommitsLaw" (84 : Nat) ({ cls := "WaitedCommits", name := "marks", desc := "(I)I" } : Jvm.MethodName)),
  (Jvm.Cond.instanceMethod ({ cls := "WaitedCommits", name := "marks", desc := "(I)I" } : Jvm.MethodName)),
  (Jvm.Cond.selects "WaitedCommits" ({ cls := "WaitedCommits", name := "marks", desc := "(I)I" } : Jvm.MethodName) ({ cls := "WaitedCommits", name := "marks", desc := "(I)I" } : Jvm.MethodName)),
  (Jvm.Cond.code ({ cls := "WaitedCommits", name := "marks", desc := "(I)I" } : Jvm.MethodName) prog_1_method_16_code (4 : Nat) (Option.some Jvm.ClassFile.FieldType.int)),
  (Jvm.Cond.methodLink "WaitedCommitsLaw" (88 : Nat) ({ cls := "WaitedCommits", name := "safe", desc := "(I)I" } : Jvm.MethodName)),
  (Jvm.Cond.instanceMethod ({ cls := "WaitedCommits", name := "safe", desc := "(I)I" } : Jvm.MethodName)),
  (Jvm.Cond.selects "WaitedCommits" ({ cls := "WaitedCommits", name := "safe", desc := "(I)I" } : Jvm.MethodName) ({ cls := "WaitedCommits", name := "safe", desc := "(I)I" } : Jvm.MethodName)),
  (Jvm.Cond.code ({ cls := "WaitedCommits", name := "safe", desc := "(I)I" } : Jvm.MethodName) prog_1_method_17_code (2 : Nat) (Option.some Jvm.ClassFile.FieldType.int)),
  (Jvm.Cond.methodLink "WaitedCommitsLaw" (92 : Nat) ({ cls := "WaitedCommits", name := "bound", desc := "(I)I" } : Jvm.MethodName)),
  (Jvm.Cond.instanceMethod ({ cls := "WaitedCommits", name := "bound", desc := "(I)I" } : Jvm.MethodName)),
  (Jvm.Cond.selects "WaitedCommits" ({ cls := "WaitedCommits", name := "bound", desc := "(I)I" } : Jvm.MethodName) ({ cls := "WaitedCommits", name := "bound", desc := "(I)I" } : Jvm.MethodName)),
  (Jvm.Cond.code ({ cls := "WaitedCommits", name := "bound", desc := "(I)I" } : Jvm.MethodName) prog_1_method_18_code (2 : Nat) (Option.some Jvm.ClassFile.FieldType.int)),
  (Jvm.Cond.methodLink "WaitedCommitsLaw" (96 : Nat) ({ cls := "WaitedCommits", name := "holders", desc := "(I)I" } : Jvm.MethodName)),
  (Jvm.Cond.instanceMethod ({ cls := "WaitedCommits", name := "holders", desc := "(I)I" } : Jvm.MethodName)),
  (Jvm.Cond.selects "WaitedCommits" ({ cls := "WaitedCommits", name := "holders", desc := "(I)I" } : Jvm.MethodName) ({ cls := "WaitedCommits", name := "holders", desc := "(I)I" } : Jvm.MethodName)),
  (Jvm.Cond.code ({ cls := "WaitedCommits", name := "holders", desc := "(I)I" } : Jvm.MethodName) prog_1_method_19_code (4 : Nat) (Option.some Jvm.ClassFile.FieldType.int)),
  (Jvm.Cond.methodLink "WaitedCommitsLaw" (100 : Nat) ({ cls := "WaitedCommits", name := "version", desc := "(II)I" } : Jvm.MethodName)),
  (Jvm.Cond.instanceMethod ({ cls := "WaitedCommits", name := "version", desc := "(II)I" } : Jvm.MethodName)),
  (Jvm.Cond.selects "WaitedCommits" ({ cls := "WaitedCommits", name := "version", desc := "(II)I" } : Jvm.MethodName) ({ cls := "WaitedCommits", name := "version", desc := "(II)I" } : Jvm.MethodName)),
  (Jvm.Cond.code ({ cls := "WaitedCommits", name := "version", desc := "(II)I" } : Jvm.MethodName) prog_1_method_20_code (3 : Nat) (Option.some Jvm.ClassFile.FieldType.int)),
  (Jvm.Cond.methodLink "WaitedCommitsLaw" (105 : Nat) ({ cls := "WaitedCommits", name := "messages", desc := "()I" } : Jvm.MethodName)),
  (Jvm.Cond.instanceMethod ({ cls := "WaitedCommits", name := "messages", desc := "()I" } : Jvm.MethodName)),
  (Jvm.Cond.selects "WaitedCommits" ({ cls := "WaitedCommits", name := "messages", desc := "()I" } : Jvm.MethodName) ({ cls := "WaitedCommits", name := "messages", desc := "()I" } : Jvm.MethodName)),
  (Jvm.Cond.code ({ cls := "WaitedCommits", name := "messages", desc := "()I" } : Jvm.MethodName) prog_1_method_21_code (1 : Nat) (Option.some Jvm.ClassFile.FieldType.int)),
  (Jvm.Cond.methodLink "WaitedCommitsLaw" (9 : Nat) ({ cls := "WaitedCommitsLaw", name := "cell", desc := "([II)I" } : Jvm.MethodName)),
  (Jvm.Cond.static ({ cls := "WaitedCommitsLaw", name := "cell", desc := "([II)I" } : Jvm.MethodName)),
  (Jvm.Cond.code ({ cls := "WaitedCommitsLaw", name := "cell", desc := "([II)I" } : Jvm.MethodName) method_2_code (2 : Nat) (Option.some Jvm.ClassFile.FieldType.int)),
  (Jvm.Cond.classLink "WaitedCommitsLaw" (18 : Nat) "WaitedCommitsModel"),
  (Jvm.Cond.instantiable "WaitedCommitsModel" (25 : Nat)),
  (Jvm.Cond.methodLink "WaitedCommitsLaw" (20 : Nat) ({ cls := "WaitedCommitsModel", name := "<init>", desc := "(I)V" } : Jvm.MethodName)),
  (Jvm.Cond.instanceMethod ({ cls := "WaitedCommitsModel", name := "<init>", desc := "(I)V" } : Jvm.MethodName)),
  (Jvm.Cond.code ({ cls := "WaitedCommitsModel", name := "<init>", desc := "(I)V" } : Jvm.MethodName) prog_7_method_1_code (3 : Nat) (Option.none : Option Jvm.ClassFile.FieldType)),
  (Jvm.Cond.methodLink "WaitedCommitsModel" (1 : Nat) ({ cls := "java/lang/Object", name := "<init>", desc := "()V" } : Jvm.MethodName)),
  (Jvm.Cond.fieldLink "WaitedCommitsModel" (71 : Nat) "WaitedCommitsModel" "e" "I"),
  (Jvm.Cond.fieldLink "WaitedCommitsModel" (114 : Nat) "WaitedCommitsModel" "now" "I"),
  (Jvm.Cond.fieldLink "WaitedCommitsModel" (7 : Nat) "WaitedCommitsModel" "early" "[I"),
  (Jvm.Cond.fieldLink "WaitedCommitsModel" (13 : Nat) "WaitedCommitsModel" "late" "[I"),
  (Jvm.Cond.fieldLink "WaitedCommitsModel" (16 : Nat) "WaitedCommitsModel" "slow" "[I"),
  (Jvm.Cond.fieldLink "WaitedCommitsModel" (19 : Nat) "WaitedCommitsModel" "down" "[Z"),
  (Jvm.Cond.fieldLink "WaitedCommitsModel" (23 : Nat) "WaitedCommitsModel" "bound" "[I"),
  (Jvm.Cond.fieldLink "WaitedCommitsModel" (138 : Nat) "WaitedCommitsModel" "versions" "I"),
  (Jvm.Cond.fieldLink "WaitedCommitsModel" (26 : Nat) "WaitedCommitsModel" "versionKey" "[I"),
  (Jvm.Cond.fieldLink "WaitedCommitsModel" (29 : Nat) "WaitedCommitsModel" "versionStamp" "[I"),
  (Jvm.Cond.fieldLink "WaitedCommitsModel" (32 : Nat) "WaitedCommitsModel" "versionValue" "[I"),
  (Jvm.Cond.fieldLink "WaitedCommitsModel" (90 : Nat) "WaitedCommitsModel" "begun" "I"),
  (Jvm.Cond.fieldLink "WaitedCommitsModel" (35 : Nat) "WaitedCommitsModel" "state" "[I"),
  (Jvm.Cond.fieldLink "WaitedCommitsModel" (38 : Nat) "WaitedCommitsModel" "age" "[I"),
  (Jvm.Cond.fieldLink "WaitedCommitsModel" (41 : Nat) "WaitedCommitsModel" "stamp" "[I"),
  (Jvm.Cond.fieldLink "WaitedCommitsModel" (44 : Nat) "WaitedCommitsModel" "floor" "[I"),
  (Jvm.Cond.fieldLink "WaitedCommitsModel" (47 : Nat) "WaitedCommitsModel" "ended" "[I"),
  (Jvm.Cond.fieldLink "WaitedCommitsModel" (50 : Nat) "WaitedCommitsModel" "lock" "[I"),
  (Jvm.Cond.fieldLink "WaitedCommitsModel" (53 : Nat) "WaitedCommitsModel" "wrote" "[Z"),
  (Jvm.Cond.fieldLink "WaitedCommitsModel" (56 : Nat) "WaitedCommitsModel" "value" "[I"),
  (Jvm.Cond.fieldLink "WaitedCommitsModel" (59 : Nat) "WaitedCommitsModel" "marked" "[Z"),
  (Jvm.Cond.fieldLink "WaitedCommitsModel" (62 : Nat) "WaitedCommitsModel" "mark" "[I"),
  (Jvm.Cond.fieldLink "WaitedCommitsModel" (117 : Nat) "WaitedCommitsModel" "sent" "I"),
  (Jvm.Cond.fieldLink "WaitedCommitsModel" (65 : Nat) "WaitedCommitsModel" "arrives" "[I"),
  (Jvm.Cond.fieldLink "WaitedCommitsModel" (68 : Nat) "WaitedCommitsModel" "number" "[I"),
  (Jvm.Cond.lays "WaitedCommitsModel" "WaitedCommitsModel" "e" "I"),
  (Jvm.Cond.lays "WaitedCommitsModel" "WaitedCommitsModel" "now" "I"),
  (Jvm.Cond.lays "WaitedCommitsModel" "WaitedCommitsModel" "early" "[I"),
  (Jvm.Cond.lays "WaitedCommitsModel" "WaitedCommitsModel" "late" "[I"),
  (Jvm.Cond.lays "WaitedCommitsModel" "WaitedCommitsModel" "slow" "[I"),
  (Jvm.Cond.lays "WaitedCommitsModel" "WaitedCommitsModel" "down" "[Z"),
  (Jvm.Cond.lays "WaitedCommitsModel" "WaitedCommitsModel" "bound" "[I"),
  (Jvm.Cond.lays "WaitedCommitsModel" "WaitedCommitsModel" "versions" "I"),
  (Jvm.Cond.lays "WaitedCommitsModel" "WaitedCommitsModel" "versionKey" "[I"),
  (Jvm.Cond.lays "WaitedCommitsModel" "WaitedCommitsModel" "versionStamp" "[I"),
  (Jvm.Cond.lays "WaitedCommitsModel" "WaitedCommitsModel" "versionValue" "[I"),
  (Jvm.Cond.lays "WaitedCommitsModel" "WaitedCommitsModel" "begun" "I"),
  (Jvm.Cond.lays "WaitedCommitsModel" "WaitedCommitsModel" "state" "[I"),
  (Jvm.Cond.lays "WaitedCommitsModel" "WaitedCommitsModel" "age" "[I"),
  (Jvm.Cond.lays "WaitedCommitsModel" "WaitedCommitsModel" "stamp" "[I"),
  (Jvm.Cond.lays "WaitedCommitsModel" "WaitedCommitsModel" "floor" "[I"),
  (Jvm.Cond.lays "WaitedCommitsModel" "WaitedCommitsModel" "ended" "[I"),
  (Jvm.Cond.lays "WaitedCommitsModel" "WaitedCommitsModel" "lock" "[I"),
  (Jvm.Cond.lays "WaitedCommitsModel" "WaitedCommitsModel" "wrote" "[Z"),
  (Jvm.Cond.lays "WaitedCommitsModel" "WaitedCommitsModel" "value" "[I"),
  (Jvm.Cond.lays "WaitedCommitsModel" "WaitedCommitsModel" "marked" "[Z"),
  (Jvm.Cond.lays "WaitedCommitsModel" "WaitedCommitsModel" "mark" "[I"),
  (Jvm.Cond.lays "WaitedCommitsModel" "WaitedCommitsModel" "sent" "I"),
  (Jvm.Cond.lays "WaitedCommitsModel" "WaitedCommitsModel" "arrives" "[I"),
  (Jvm.Cond.lays "WaitedCommitsModel" "WaitedCommitsModel" "number" "[I"),
  (Jvm.Cond.methodLink "WaitedCommitsLaw" (25 : Nat) ({ cls := "WaitedCommitsModel", name := "clock", desc := "(III)Z" } : Jvm.MethodName)),
  (Jvm.Cond.instanceMethod ({ cls := "WaitedCommitsModel", name := "clock", desc := "(III)Z" } : Jvm.MethodName)),
  (Jvm.Cond.selects "WaitedCommitsModel" ({ cls := "WaitedCommitsModel", name := "clock", desc := "(III)Z" } : Jvm.MethodName) ({ cls := "WaitedCommitsModel", name := "clock", desc := "(III)Z" } : Jvm.MethodName)),
  (Jvm.Cond.code ({ cls := "WaitedCommitsModel", name := "clock", desc := "(III)Z" } : Jvm.MethodName) prog_7_method_3_code (4 : Nat) (Option.some Jvm.ClassFile.FieldType.boolean)),
  (Jvm.Cond.methodLink "WaitedCommitsModel" (75 : Nat) ({ cls := "WaitedCommitsModel", name := "in", desc := "(II)Z" } : Jvm.MethodName)),
  (Jvm.Cond.static ({ cls := "WaitedCommitsModel", name := "in", desc := "(II)Z" } : Jvm.MethodName)),
  (Jvm.Cond.code ({ cls := "WaitedCommitsModel", name := "in", desc := "(II)Z" } : Jvm.MethodName) prog_7_method_2_code (2 : Nat) (Option.some Jvm.ClassFile.FieldType.boolean)),
  (Jvm.Cond.methodLink "WaitedCommitsLaw" (30 : Nat) ({ cls := "WaitedCommitsModel", name := "delay", desc := "(II)Z" } : Jvm.MethodName)),
  (Jvm.Cond.instanceMethod ({ cls := "WaitedCommitsModel", name := "delay", desc := "(II)Z" } : Jvm.MethodName)),
  (Jvm.Cond.selects "WaitedCommitsModel" ({ cls := "WaitedCommitsModel", name := "delay", desc := "(II)Z" } : Jvm.MethodName) ({ cls := "WaitedCommitsModel", name := "delay", desc := "(II)Z" } : Jvm.MethodName)),
  (Jvm.Cond.code ({ cls := "WaitedCommitsModel", name := "delay", desc := "(II)Z" } : Jvm.MethodName) prog_7_method_4_code (3 : Nat) (Option.some Jvm.ClassFile.FieldType.boolean)),
  (Jvm.Cond.methodLink "WaitedCommitsLaw" (35 : Nat) ({ cls := "WaitedCommitsModel", name := "power", desc := "(IZ)Z" } : Jvm.MethodName)),
  (Jvm.Cond.instanceMethod ({ cls := "WaitedCommitsModel", name := "power", desc := "(IZ)Z" } : Jvm.MethodName)),
  (Jvm.Cond.selects "WaitedCommitsModel" ({ cls := "WaitedCommitsModel", name := "power", desc := "(IZ)Z" } : Jvm.MethodName) ({ cls := "WaitedCommitsModel", name := "power", desc := "(IZ)Z" } : Jvm.MethodName)),
  (Jvm.Cond.code ({ cls := "WaitedCommitsModel", name := "power", desc := "(IZ)Z" } : Jvm.MethodName) prog_7_method_5_code (3 : Nat) (Option.some Jvm.ClassFile.FieldType.boolean)),
  (Jvm.Cond.methodLink "WaitedCommitsLaw" (40 : Nat) ({ cls := "WaitedCommitsModel", name := "begin", desc := "(I)Z" } : Jvm.MethodName)),
  (Jvm.Cond.instanceMethod ({ cls := "WaitedCommitsModel", name := "begin", desc := "(I)Z" } : Jvm.MethodName)),
  (Jvm.Cond.selects "WaitedCommitsModel" ({ cls := "WaitedCommitsModel", name := "begin", desc := "(I)Z" } : Jvm.MethodName) ({ cls := "WaitedCommitsModel", name := "begin", desc := "(I)Z" } : Jvm.MethodName)),
  (Jvm.Cond.code ({ cls := "WaitedCommitsModel", name := "begin", desc := "(I)Z" } : Jvm.MethodName) prog_7_method_11_code (2 : Nat) (Option.some Jvm.ClassFile.FieldType.boolean)),
  (Jvm.Cond.methodLink "WaitedCommitsModel" (82 : Nat) ({ cls := "WaitedCommitsModel", name := "least", desc := "(I)I" } : Jvm.MethodName)),
  (Jvm.Cond.instanceMethod ({ cls := "WaitedCommitsModel", name := "least", desc := "(I)I" } : Jvm.MethodName)),
  (Jvm.Cond.code ({ cls := "WaitedCommitsModel", name := "least", desc := "(I)I" } : Jvm.MethodName) prog_7_method_9_code (2 : Nat) (Option.some Jvm.ClassFile.FieldType.int)),
  (Jvm.Cond.methodLink "WaitedCommitsModel" (79 : Nat) ({ cls := "WaitedCommitsModel", name := "takesPart", desc := "(II)Z" } : Jvm.MethodName)),
  (Jvm.Cond.instanceMethod ({ cls := "WaitedCommitsModel", name := "takesPart", desc := "(II)Z" } : Jvm.MethodName)),
  (Jvm.Cond.code ({ cls := "WaitedCommitsModel", name := "takesPart", desc := "(II)Z" } : Jvm.MethodName) prog_7_method_8_code (3 : Nat) (Option.some Jvm.ClassFile.FieldType.boolean)),
  (Jvm.Cond.methodLink "WaitedCommitsModel" (86 : Nat) ({ cls := "WaitedCommitsModel", name := "forget", desc := "(I)V" } : Jvm.MethodName)),
  (Jvm.Cond.instanceMethod ({ cls := "WaitedCommitsModel", name := "forget", desc := "(I)V" } : Jvm.MethodName)),
  (Jvm.Cond.code ({ cls := "WaitedCommitsModel", name := "forget", desc := "(I)V" } : Jvm.MethodName) prog_7_method_10_code (3 : Nat) (Option.none : Option Jvm.ClassFile.FieldType)),
  (Jvm.Cond.methodLink "WaitedCommitsLaw" (45 : Nat) ({ cls := "WaitedCommitsModel", name := "read", desc := "(II)J" } : Jvm.MethodName)),
  (Jvm.Cond.instanceMethod ({ cls := "WaitedCommitsModel", name := "read", desc := "(II)J" } : Jvm.MethodName)),
  (Jvm.Cond.selects "WaitedCommitsModel" ({ cls := "WaitedCommitsModel", name := "read", desc := "(II)J" } : Jvm.MethodName) ({ cls := "WaitedCommitsModel", name := "read", desc := "(II)J" } : Jvm.MethodName)),
  (Jvm.Cond.code ({ cls := "WaitedCommitsModel", name := "read", desc := "(II)J" } : Jvm.MethodName) prog_7_method_15_code (4 : Nat) (Option.some Jvm.ClassFile.FieldType.long)),
  (Jvm.Cond.methodLink "WaitedCommitsModel" (100 : Nat) ({ cls := "WaitedCommitsModel", name := "active", desc := "(I)Z" } : Jvm.MethodName)),
  (Jvm.Cond.instanceMethod ({ cls := "WaitedCommitsModel", name := "active", desc := "(I)Z" } : Jvm.MethodName)),
  (Jvm.Cond.code ({ cls := "WaitedCommitsModel", name := "active", desc := "(I)Z" } : Jvm.MethodName) prog_7_method_7_code (2 : Nat) (Option.some Jvm.ClassFile.FieldType.boolean)),
  (Jvm.Cond.methodLink "WaitedCommitsModel" (104 : Nat) ({ cls := "WaitedCommitsModel", name := "take", desc := "(III)Z" } : Jvm.MethodName)),
  (Jvm.Cond.instanceMethod ({ cls := "WaitedCommitsModel", name := "take", desc := "(III)Z" } : Jvm.MethodName)),
  (Jvm.Cond.code ({ cls := "WaitedCommitsModel", name := "take", desc := "(III)Z" } : Jvm.MethodName) prog_7_method_13_code (5 : Nat) (Option.some Jvm.ClassFile.FieldType.boolean)),
  (Jvm.Cond.methodLink "WaitedCommitsModel" (93 : Nat) ({ cls := "WaitedCommitsModel", name := "conflicts", desc := "(IIII)Z" } : Jvm.MethodName)),
  (Jvm.Cond.instanceMethod ({ cls := "WaitedCommitsModel", name := "conflicts", desc := "(IIII)Z" } : Jvm.MethodName)),
  (Jvm.Cond.code ({ cls := "WaitedCommitsModel", name := "conflicts", desc := "(IIII)Z" } : Jvm.MethodName) prog_7_method_12_code (5 : Nat) (Option.some Jvm.ClassFile.FieldType.boolean)),
  (Jvm.Cond.methodLink "WaitedCommitsModel" (97 : Nat) ({ cls := "WaitedCommitsModel", name := "drop", desc := "(I)V" } : Jvm.MethodName)),
  (Jvm.Cond.instanceMethod ({ cls := "WaitedCommitsModel", name := "drop", desc := "(I)V" } : Jvm.MethodName)),
  (Jvm.Cond.code ({ cls := "WaitedCommitsModel", name := "drop", desc := "(I)V" } : Jvm.MethodName) prog_7_method_14_code (2 : Nat) (Option.none : Option Jvm.ClassFile.FieldType)),
  (Jvm.Cond.constantLong "WaitedCommitsModel" (108 : Nat) (1099511627776 : Int64)),
  (Jvm.Cond.methodLink "WaitedCommitsModel" (110 : Nat) ({ cls := "WaitedCommitsModel", name := "find", desc := "(II)I" } : Jvm.MethodName)),
  (Jvm.Cond.instanceMethod ({ cls := "WaitedCommitsModel", name := "find", desc := "(II)I" } : Jvm.MethodName)),
  (Jvm.Cond.code ({ cls := "WaitedCommitsModel", name := "find", desc := "(II)I" } : Jvm.MethodName) prog_7_method_27_code (5 : Nat) (Option.some Jvm.ClassFile.FieldType.int)),
  (Jvm.Cond.methodLink "WaitedCommitsLaw" (49 : Nat) ({ cls := "WaitedCommitsModel", name := "write", desc := "(III)Z" } : Jvm.MethodName)),
  (Jvm.Cond.instanceMethod ({ cls := "WaitedCommitsModel", name := "write", desc := "(III)Z" } : Jvm.MethodName)),
  (Jvm.Cond.selects "WaitedCommitsModel" ({ cls := "WaitedCommitsModel", name := "write", desc := "(III)Z" } : Jvm.MethodName) ({ cls := "WaitedCommitsModel", name := "write", desc := "(III)Z" } : Jvm.MethodName)),
  (Jvm.Cond.code ({ cls := "WaitedCommitsModel", name := "write", desc := "(III)Z" } : Jvm.MethodName) prog_7_method_16_code (4 : Nat) (Option.some Jvm.ClassFile.FieldType.boolean)),
  (Jvm.Cond.methodLink "WaitedCommitsLaw" (57 : Nat) ({ cls := "WaitedCommitsModel", name := "abort", desc := "(I)Z" } : Jvm.MethodName)),
  (Jvm.Cond.instanceMethod ({ cls := "WaitedCommitsModel", name := "abort", desc := "(I)Z" } : Jvm.MethodName)),
  (Jvm.Cond.selects "WaitedCommitsModel" ({ cls := "WaitedCommitsModel", name := "abort", desc := "(I)Z" } : Jvm.MethodName) ({ cls := "WaitedCommitsModel", name := "abort", desc := "(I)Z" } : Jvm.MethodName)),
  (Jvm.Cond.code ({ cls := "WaitedCommitsModel", name := "abort", desc := "(I)Z" } : Jvm.MethodName) prog_7_method_17_code (2 : Nat) (Option.some Jvm.ClassFile.FieldType.boolean)),
  (Jvm.Cond.methodLink "WaitedCommitsLaw" (53 : Nat) ({ cls := "WaitedCommitsModel", name := "commit", desc := "(I)Z" } : Jvm.MethodName)),
  (Jvm.Cond.instanceMethod ({ cls := "WaitedCommitsModel", name := "commit", desc := "(I)Z" } : Jvm.MethodName)),
  (Jvm.Cond.selects "WaitedCommitsModel" ({ cls := "WaitedCommitsModel", name := "commit", desc := "(I)Z" } : Jvm.MethodName) ({ cls := "WaitedCommitsModel", name := "commit", desc := "(I)Z" } : Jvm.MethodName)),
  (Jvm.Cond.code ({ cls := "WaitedCommitsModel", name := "commit", desc := "(I)Z" } : Jvm.MethodName) prog_7_method_20_code (4 : Nat) (Option.some Jvm.ClassFile.FieldType.boolean)),
  (Jvm.Cond.methodLink "WaitedCommitsModel" (124 : Nat) ({ cls := "WaitedCommitsModel", name := "sendAll", desc := "(III)V" } : Jvm.MethodName)),
  (Jvm.Cond.instanceMethod ({ cls := "WaitedCommitsModel", name := "sendAll", desc := "(III)V" } : Jvm.MethodName)),
  (Jvm.Cond.code ({ cls := "WaitedCommitsModel", name := "sendAll", desc := "(III)V" } : Jvm.MethodName) prog_7_method_19_code (5 : Nat) (Option.none : Option Jvm.ClassFile.FieldType)),
  (Jvm.Cond.methodLink "WaitedCommitsModel" (120 : Nat) ({ cls := "WaitedCommitsModel", name := "send", desc := "(IIII)V" } : Jvm.MethodName)),
  (Jvm.Cond.instanceMethod ({ cls := "WaitedCommitsModel", name := "send", desc := "(IIII)V" } : Jvm.MethodName)),
  (Jvm.Cond.code ({ cls := "WaitedCommitsModel", name := "send", desc := "(IIII)V" } : Jvm.MethodName) prog_7_method_18_code (6 : Nat) (Option.none : Option Jvm.ClassFile.FieldType)),
  (Jvm.Cond.methodLink "WaitedCommitsModel" (128 : Nat) ({ cls := "WaitedCommitsModel", name := "stampIfAll", desc := "(I)V" } : Jvm.MethodName)),
  (Jvm.Cond.instanceMethod ({ cls := "WaitedCommitsModel", name := "stampIfAll", desc := "(I)V" } : Jvm.MethodName)),
  (Jvm.Cond.code ({ cls := "WaitedCommitsModel", name := "stampIfAll", desc := "(I)V" } : Jvm.MethodName) prog_7_method_21_code (6 : Nat) (Option.none : Option Jvm.ClassFile.FieldType)),
  (Jvm.Cond.methodLink "WaitedCommitsModel" (131 : Nat) ({ cls := "WaitedCommitsModel", name := "put", desc := "(III)V" } : Jvm.MethodName)),
  (Jvm.Cond.instanceMethod ({ cls := "WaitedCommitsModel", name := "put", desc := "(III)V" } : Jvm.MethodName)),
  (Jvm.Cond.code ({ cls := "WaitedCommitsModel", name := "put", desc := "(III)V" } : Jvm.MethodName) prog_7_method_22_code (4 : Nat) (Option.none : Option Jvm.ClassFile.FieldType)),
  (Jvm.Cond.methodLink "WaitedCommitsLaw" (66 : Nat) ({ cls := "WaitedCommitsModel", name := "step", desc := "(I)I" } : Jvm.MethodName)),
  (Jvm.Cond.instanceMethod ({ cls := "WaitedCommitsModel", name := "step", desc := "(I)I" } : Jvm.MethodName)),
  (Jvm.Cond.selects "WaitedCommitsModel" ({ cls := "WaitedCommitsModel", name := "step", desc := "(I)I" } : Jvm.MethodName) ({ cls := "WaitedCommitsModel", name := "step", desc := "(I)I" } : Jvm.MethodName)),
  (Jvm.Cond.code ({ cls := "WaitedCommitsModel", name := "step", desc := "(I)I" } : Jvm.MethodName) prog_7_method_26_code (7 : Nat) (Option.some Jvm.ClassFile.FieldType.int)),
  (Jvm.Cond.methodLink "WaitedCommitsModel" (144 : Nat) ({ cls := "WaitedCommitsModel", name := "next", desc := "()I" } : Jvm.MethodName)),
  (Jvm.Cond.instanceMethod ({ cls := "WaitedCommitsModel", name := "next", desc := "()I" } : Jvm.MethodName)),
  (Jvm.Cond.code ({ cls := "WaitedCommitsModel", name := "next", desc := "()I" } : Jvm.MethodName) prog_7_method_25_code (6 : Nat) (Option.some Jvm.ClassFile.FieldType.int)),
  (Jvm.Cond.methodLink "WaitedCommitsModel" (148 : Nat) ({ cls := "WaitedCommitsModel", name := "deal", desc := "(I)V" } : Jvm.MethodName)),
  (Jvm.Cond.instanceMethod ({ cls := "WaitedCommitsModel", name := "deal", desc := "(I)V" } : Jvm.MethodName)),
  (Jvm.Cond.code ({ cls := "WaitedCommitsModel", name := "deal", desc := "(I)V" } : Jvm.MethodName) prog_7_method_23_code (7 : Nat) (Option.none : Option Jvm.ClassFile.FieldType)),
  (Jvm.Cond.methodLink "WaitedCommitsModel" (134 : Nat) ({ cls := "WaitedCommitsModel", name := "finish", desc := "(II)V" } : Jvm.MethodName)),
  (Jvm.Cond.instanceMethod ({ cls := "WaitedCommitsModel", name := "finish", desc := "(II)V" } : Jvm.MethodName)),
  (Jvm.Cond.code ({ cls := "WaitedCommitsModel", name := "finish", desc := "(II)V" } : Jvm.MethodName) prog_7_method_24_code (4 : Nat) (Option.none : Option Jvm.ClassFile.FieldType)),
  (Jvm.Cond.methodLink "WaitedCommitsModel" (141 : Nat) ({ cls := "WaitedCommitsModel", name := "raise", desc := "(II)V" } : Jvm.MethodName)),
  (Jvm.Cond.instanceMethod ({ cls := "WaitedCommitsModel", name := "raise", desc := "(II)V" } : Jvm.MethodName)),
  (Jvm.Cond.code ({ cls := "WaitedCommitsModel", name := "raise", desc := "(II)V" } : Jvm.MethodName) prog_7_method_6_code (3 : Nat) (Option.none : Option Jvm.ClassFile.FieldType)),
  (Jvm.Cond.methodLink "WaitedCommitsLaw" (104 : Nat) ({ cls := "WaitedCommitsModel", name := "version", desc := "(II)I" } : Jvm.MethodName)),
  (Jvm.Cond.instanceMethod ({ cls := "WaitedCommitsModel", name := "version", desc := "(II)I" } : Jvm.MethodName)),
  (Jvm.Cond.selects "WaitedCommitsModel" ({ cls := "WaitedCommitsModel", name := "version", desc := "(II)I" } : Jvm.MethodName) ({ cls := "WaitedCommitsModel", name := "version", desc := "(II)I" } : Jvm.MethodName)),
  (Jvm.Cond.code ({ cls := "WaitedCommitsModel", name := "version", desc := "(II)I" } : Jvm.MethodName) prog_7_method_28_code (4 : Nat) (Option.some Jvm.ClassFile.FieldType.int)),
  (Jvm.Cond.methodLink "WaitedCommitsLaw" (61 : Nat) ({ cls := "WaitedCommitsModel", name := "readAt", desc := "(II)J" } : Jvm.MethodName)),
  (Jvm.Cond.instanceMethod ({ cls := "WaitedCommitsModel", name := "readAt", desc := "(II)J" } : Jvm.MethodName)),
  (Jvm.Cond.selects "WaitedCommitsModel" ({ cls := "WaitedCommitsModel", name := "readAt", desc := "(II)J" } : Jvm.MethodName) ({ cls := "WaitedCommitsModel", name := "readAt", desc := "(II)J" } : Jvm.MethodName)),
  (Jvm.Cond.code ({ cls := "WaitedCommitsModel", name := "readAt", desc := "(II)J" } : Jvm.MethodName) prog_7_method_29_code (5 : Nat) (Option.some Jvm.ClassFile.FieldType.long)),
  (Jvm.Cond.methodLink "WaitedCommitsModel" (151 : Nat) ({ cls := "WaitedCommitsModel", name := "safe", desc := "(I)I" } : Jvm.MethodName)),
  (Jvm.Cond.instanceMethod ({ cls := "WaitedCommitsModel", name := "safe", desc := "(I)I" } : Jvm.MethodName)),
  (Jvm.Cond.selects "WaitedCommitsModel" ({ cls := "WaitedCommitsModel", name := "safe", desc := "(I)I" } : Jvm.MethodName) ({ cls := "WaitedCommitsModel", name := "safe", desc := "(I)I" } : Jvm.MethodName)),
  (Jvm.Cond.code ({ cls := "WaitedCommitsModel", name := "safe", desc := "(I)I" } : Jvm.MethodName) prog_7_method_35_code (4 : Nat) (Option.some Jvm.ClassFile.FieldType.int)),
  (Jvm.Cond.constantLong "WaitedCommitsModel" (154 : Nat) (2199023255552 : Int64)),
  (Jvm.Cond.methodLink "WaitedCommitsLaw" (71 : Nat) ({ cls := "WaitedCommitsModel", name := "now", desc := "()I" } : Jvm.MethodName)),
  (Jvm.Cond.instanceMethod ({ cls := "WaitedCommitsModel", name := "now", desc := "()I" } : Jvm.MethodName)),
  (Jvm.Cond.selects "WaitedCommitsModel" ({ cls := "WaitedCommitsModel", name := "now", desc := "()I" } : Jvm.MethodName) ({ cls := "WaitedCommitsModel", name := "now", desc := "()I" } : Jvm.MethodName)),
  (Jvm.Cond.code ({ cls := "WaitedCommitsModel", name := "now", desc := "()I" } : Jvm.MethodName) prog_7_method_30_code (1 : Nat) (Option.some Jvm.ClassFile.FieldType.int)),
  (Jvm.Cond.methodLink "WaitedCommitsLaw" (75 : Nat) ({ cls := "WaitedCommitsModel", name := "state", desc := "(I)I" } : Jvm.MethodName)),
  (Jvm.Cond.instanceMethod ({ cls := "WaitedCommitsModel", name := "state", desc := "(I)I" } : Jvm.MethodName)),
  (Jvm.Cond.selects "WaitedCommitsModel" ({ cls := "WaitedCommitsModel", name := "state", desc := "(I)I" } : Jvm.MethodName) ({ cls := "WaitedCommitsModel", name := "state", desc := "(I)I" } : Jvm.MethodName)),
  (Jvm.Cond.code ({ cls := "WaitedCommitsModel", name := "state", desc := "(I)I" } : Jvm.MethodName) prog_7_method_31_code (2 : Nat) (Option.some Jvm.ClassFile.FieldType.int)),
  (Jvm.Cond.methodLink "WaitedCommitsLaw" (79 : Nat) ({ cls := "WaitedCommitsModel", name := "stamp", desc := "(I)I" } : Jvm.MethodName)),
  (Jvm.Cond.instanceMethod ({ cls := "WaitedCommitsModel", name := "stamp", desc := "(I)I" } : Jvm.MethodName)),
  (Jvm.Cond.selects "WaitedCommitsModel" ({ cls := "WaitedCommitsModel", name := "stamp", desc := "(I)I" } : Jvm.MethodName) ({ cls := "WaitedCommitsModel", name := "stamp", desc := "(I)I" } : Jvm.MethodName)),
  (Jvm.Cond.code ({ cls := "WaitedCommitsModel", name := "stamp", desc := "(I)I" } : Jvm.MethodName) prog_7_method_32_code (2 : Nat) (Option.some Jvm.ClassFile.FieldType.int)),
  (Jvm.Cond.methodLink "WaitedCommitsLaw" (83 : Nat) ({ cls := "WaitedCommitsModel", name := "end", desc := "(I)I" } : Jvm.MethodName)),
  (Jvm.Cond.instanceMethod ({ cls := "WaitedCommitsModel", name := "end", desc := "(I)I" } : Jvm.MethodName)),
  (Jvm.Cond.selects "WaitedCommitsModel" ({ cls := "WaitedCommitsModel", name := "end", desc := "(I)I" } : Jvm.MethodName) ({ cls := "WaitedCommitsModel", name := "end", desc := "(I)I" } : Jvm.MethodName)),
  (Jvm.Cond.code ({ cls := "WaitedCommitsModel", name := "end", desc := "(I)I" } : Jvm.MethodName) prog_7_method_33_code (2 : Nat) (Option.some Jvm.ClassFile.FieldType.int)),
  (Jvm.Cond.methodLink "WaitedCommitsLaw" (87 : Nat) ({ cls := "WaitedCommitsModel", name := "marks", desc := "(I)I" } : Jvm.MethodName)),
  (Jvm.Cond.instanceMethod ({ cls := "WaitedCommitsModel", name := "marks", desc := "(I)I" } : Jvm.MethodName)),
  (Jvm.Cond.selects "WaitedCommitsModel" ({ cls := "WaitedCommitsModel", name := "marks", desc := "(I)I" } : Jvm.MethodName) ({ cls := "WaitedCommitsModel", name := "marks", desc := "(I)I" } : Jvm.MethodName)),
  (Jvm.Cond.code ({ cls := "WaitedCommitsModel", name := "marks", desc := "(I)I" } : Jvm.MethodName) prog_7_method_34_code (5 : Nat) (Option.some Jvm.ClassFile.FieldType.int)),
  (Jvm.Cond.methodLink "WaitedCommitsLaw" (91 : Nat) ({ cls := "WaitedCommitsModel", name := "safe", desc := "(I)I" } : Jvm.MethodName)),
  (Jvm.Cond.methodLink "WaitedCommitsLaw" (95 : Nat) ({ cls := "WaitedCommitsModel", name := "bound", desc := "(I)I" } : Jvm.MethodName)),
  (Jvm.Cond.instanceMethod ({ cls := "WaitedCommitsModel", name := "bound", desc := "(I)I" } : Jvm.MethodName)),
  (Jvm.Cond.selects "WaitedCommitsModel" ({ cls := "WaitedCommitsModel", name := "bound", desc := "(I)I" } : Jvm.MethodName) ({ cls := "WaitedCommitsModel", name := "bound", desc := "(I)I" } : Jvm.MethodName)),
  (Jvm.Cond.code ({ cls := "WaitedCommitsModel", name := "bound", desc := "(I)I" } : Jvm.MethodName) prog_7_method_36_code (2 : Nat) (Option.some Jvm.ClassFile.FieldType.int)),
  (Jvm.Cond.methodLink "WaitedCommitsLaw" (99 : Nat) ({ cls := "WaitedCommitsModel", name := "holders", desc := "(I)I" } : Jvm.MethodName)),
  (Jvm.Cond.instanceMethod ({ cls := "WaitedCommitsModel", name := "holders", desc := "(I)I" } : Jvm.MethodName)),
  (Jvm.Cond.selects "WaitedCommitsModel" ({ cls := "WaitedCommitsModel", name := "holders", desc := "(I)I" } : Jvm.MethodName) ({ cls := "WaitedCommitsModel", name := "holders", desc := "(I)I" } : Jvm.MethodName)),
  (Jvm.Cond.code ({ cls := "WaitedCommitsModel", name := "holders", desc := "(I)I" } : Jvm.MethodName) prog_7_method_37_code (4 : Nat) (Option.some Jvm.ClassFile.FieldType.int)),
  (Jvm.Cond.methodLink "WaitedCommitsLaw" (108 : Nat) ({ cls := "WaitedCommitsModel", name := "messages", desc := "()I" } : Jvm.MethodName)),
  (Jvm.Cond.instanceMethod ({ cls := "WaitedCommitsModel", name := "messages", desc := "()I" } : Jvm.MethodName)),
  (Jvm.Cond.selects "WaitedCommitsModel" ({ cls := "WaitedCommitsModel", name := "messages", desc := "()I" } : Jvm.MethodName) ({ cls := "WaitedCommitsModel", name := "messages", desc := "()I" } : Jvm.MethodName)),
  (Jvm.Cond.code ({ cls := "WaitedCommitsModel", name := "messages", desc := "()I" } : Jvm.MethodName) prog_7_method_38_code (3 : Nat) (Option.some Jvm.ClassFile.FieldType.int)),
  (Jvm.Cond.selects "WaitedCommits" ({ cls := "WaitedCommits", name := "isError", desc := "(I)Z" } : Jvm.MethodName) ({ cls := "WaitedCommits", name := "isError", desc := "(I)Z" } : Jvm.MethodName)),
  (Jvm.Cond.selects "WaitedCommits$Transaction" ({ cls := "WaitedCommits$Transaction", name := "leastParticipant", desc := "()I" } : Jvm.MethodName) ({ cls := "WaitedCommits$Transaction", name := "leastParticipant", desc := "()I" } : Jvm.MethodName)),
  (Jvm.Cond.selects "WaitedCommits$Transaction" ({ cls := "WaitedCommits$Transaction", name := "holdsAt", desc := "(I)Z" } : Jvm.MethodName) ({ cls := "WaitedCommits$Transaction", name := "holdsAt", desc := "(I)Z" } : Jvm.MethodName)),
  (Jvm.Cond.selects "WaitedCommits" ({ cls := "WaitedCommits", name := "isActive", desc := "(I)Z" } : Jvm.MethodName) ({ cls := "WaitedCommits", name := "isActive", desc := "(I)Z" } : Jvm.MethodName)),
  (Jvm.Cond.selects "WaitedCommits" ({ cls := "WaitedCommits", name := "lock", desc := "(LWaitedCommits$Transaction;II)Z" } : Jvm.MethodName) ({ cls := "WaitedCommits", name := "lock", desc := "(LWaitedCommits$Transaction;II)Z" } : Jvm.MethodName)),
  (Jvm.Cond.selects "WaitedCommits$Transaction" ({ cls := "WaitedCommits$Transaction", name := "giveUp", desc := "()V" } : Jvm.MethodName) ({ cls := "WaitedCommits$Transaction", name := "giveUp", desc := "()V" } : Jvm.MethodName)),
  (Jvm.Cond.selects "WaitedCommits$Transaction" ({ cls := "WaitedCommits$Transaction", name := "unlockAt", desc := "(I)V" } : Jvm.MethodName) ({ cls := "WaitedCommits$Transaction", name := "unlockAt", desc := "(I)V" } : Jvm.MethodName)),
  (Jvm.Cond.selects "WaitedCommits" ({ cls := "WaitedCommits", name := "prepare", desc := "(I)V" } : Jvm.MethodName) ({ cls := "WaitedCommits", name := "prepare", desc := "(I)V" } : Jvm.MethodName)),
  (Jvm.Cond.selects "WaitedCommits" ({ cls := "WaitedCommits", name := "latest", desc := "(I)I" } : Jvm.MethodName) ({ cls := "WaitedCommits", name := "latest", desc := "(I)I" } : Jvm.MethodName)),
  (Jvm.Cond.selects "WaitedCommits" ({ cls := "WaitedCommits", name := "sendToOthers", desc := "(II)I" } : Jvm.MethodName) ({ cls := "WaitedCommits", name := "sendToOthers", desc := "(II)I" } : Jvm.MethodName)),
  (Jvm.Cond.selects "WaitedCommits" ({ cls := "WaitedCommits", name := "send", desc := "(III)V" } : Jvm.MethodName) ({ cls := "WaitedCommits", name := "send", desc := "(III)V" } : Jvm.MethodName)),
  (Jvm.Cond.selects "WaitedCommits" ({ cls := "WaitedCommits", name := "chooseStamp", desc := "(LWaitedCommits$Transaction;)V" } : Jvm.MethodName) ({ cls := "WaitedCommits", name := "chooseStamp", desc := "(LWaitedCommits$Transaction;)V" } : Jvm.MethodName)),
  (Jvm.Cond.selects "WaitedCommits$Transaction" ({ cls := "WaitedCommits$Transaction", name := "greatestMark", desc := "()I" } : Jvm.MethodName) ({ cls := "WaitedCommits$Transaction", name := "greatestMark", desc := "()I" } : Jvm.MethodName)),
  (Jvm.Cond.selects "WaitedCommits" ({ cls := "WaitedCommits", name := "greatestReadyTime", desc := "(I)I" } : Jvm.MethodName) ({ cls := "WaitedCommits", name := "greatestReadyTime", desc := "(I)I" } : Jvm.MethodName)),
  (Jvm.Cond.selects "WaitedCommits" ({ cls := "WaitedCommits", name := "leastMark", desc := "(I)I" } : Jvm.MethodName) ({ cls := "WaitedCommits", name := "leastMark", desc := "(I)I" } : Jvm.MethodName)),
  (Jvm.Cond.selects "WaitedCommits$Site" ({ cls := "WaitedCommits$Site", name := "raiseBound", desc := "(I)V" } : Jvm.MethodName) ({ cls := "WaitedCommits$Site", name := "raiseBound", desc := "(I)V" } : Jvm.MethodName)),
  (Jvm.Cond.selects "WaitedCommits$Key" ({ cls := "WaitedCommits$Key", name := "valueAt", desc := "(I)J" } : Jvm.MethodName) ({ cls := "WaitedCommits$Key", name := "valueAt", desc := "(I)J" } : Jvm.MethodName)),
  (Jvm.Cond.selects "WaitedCommits" ({ cls := "WaitedCommits", name := "deliverMessages", desc := "()V" } : Jvm.MethodName) ({ cls := "WaitedCommits", name := "deliverMessages", desc := "()V" } : Jvm.MethodName)),
  (Jvm.Cond.selects "WaitedCommits" ({ cls := "WaitedCommits", name := "firstDue", desc := "()LWaitedCommits$Message;" } : Jvm.MethodName) ({ cls := "WaitedCommits", name := "firstDue", desc := "()LWaitedCommits$Message;" } : Jvm.MethodName)),
  (Jvm.Cond.selects "WaitedCommits" ({ cls := "WaitedCommits", name := "isDue", desc := "(LWaitedCommits$Message;)Z" } : Jvm.MethodName) ({ cls := "WaitedCommits", name := "isDue", desc := "(LWaitedCommits$Message;)Z" } : Jvm.MethodName)),
  (Jvm.Cond.selects "WaitedCommits$Message" ({ cls := "WaitedCommits$Message", name := "comesBefore", desc := "(LWaitedCommits$Message;)Z" } : Jvm.MethodName) ({ cls := "WaitedCommits$Message", name := "comesBefore", desc := "(LWaitedCommits$Message;)Z" } : Jvm.MethodName)),
  (Jvm.Cond.selects "WaitedCommits" ({ cls := "WaitedCommits", name := "dealWith", desc := "(LWaitedCommits$Message;)V" } : Jvm.MethodName) ({ cls := "WaitedCommits", name := "dealWith", desc := "(LWaitedCommits$Message;)V" } : Jvm.MethodName)),
  (Jvm.Cond.selects "WaitedCommits" ({ cls := "WaitedCommits", name := "takePrepare", desc := "(II)V" } : Jvm.MethodName) ({ cls := "WaitedCommits", name := "takePrepare", desc := "(II)V" } : Jvm.MethodName)),
  (Jvm.Cond.selects "WaitedCommits" ({ cls := "WaitedCommits", name := "takePrepared", desc := "(LWaitedCommits$Transaction;)V" } : Jvm.MethodName) ({ cls := "WaitedCommits", name := "takePrepared", desc := "(LWaitedCommits$Transaction;)V" } : Jvm.MethodName)),
  (Jvm.Cond.selects "WaitedCommits" ({ cls := "WaitedCommits", name := "finishAt", desc := "(LWaitedCommits$Transaction;I)V" } : Jvm.MethodName) ({ cls := "WaitedCommits", name := "finishAt", desc := "(LWaitedCommits$Transaction;I)V" } : Jvm.MethodName)),
  (Jvm.Cond.selects "WaitedCommits$Key" ({ cls := "WaitedCommits$Key", name := "add", desc := "(II)V" } : Jvm.MethodName) ({ cls := "WaitedCommits$Key", name := "add", desc := "(II)V" } : Jvm.MethodName)),
  (Jvm.Cond.selects "WaitedCommits" ({ cls := "WaitedCommits", name := "endWaiting", desc := "()I" } : Jvm.MethodName) ({ cls := "WaitedCommits", name := "endWaiting", desc := "()I" } : Jvm.MethodName)),
  (Jvm.Cond.selects "WaitedCommits" ({ cls := "WaitedCommits", name := "mayEnd", desc := "(LWaitedCommits$Transaction;)Z" } : Jvm.MethodName) ({ cls := "WaitedCommits", name := "mayEnd", desc := "(LWaitedCommits$Transaction;)Z" } : Jvm.MethodName)),
  (Jvm.Cond.selects "WaitedCommits" ({ cls := "WaitedCommits", name := "earliest", desc := "(I)I" } : Jvm.MethodName) ({ cls := "WaitedCommits", name := "earliest", desc := "(I)I" } : Jvm.MethodName)),
  (Jvm.Cond.selects "WaitedCommits" ({ cls := "WaitedCommits", name := "endOne", desc := "(I)V" } : Jvm.MethodName) ({ cls := "WaitedCommits", name := "endOne", desc := "(I)V" } : Jvm.MethodName)),
  (Jvm.Cond.selects "WaitedCommitsModel" ({ cls := "WaitedCommitsModel", name := "least", desc := "(I)I" } : Jvm.MethodName) ({ cls := "WaitedCommitsModel", name := "least", desc := "(I)I" } : Jvm.MethodName)),
  (Jvm.Cond.selects "WaitedCommitsModel" ({ cls := "WaitedCommitsModel", name := "takesPart", desc := "(II)Z" } : Jvm.MethodName) ({ cls := "WaitedCommitsModel", name := "takesPart", desc := "(II)Z" } : Jvm.MethodName)),
  (Jvm.Cond.selects "WaitedCommitsModel" ({ cls := "WaitedCommitsModel", name := "forget", desc := "(I)V" } : Jvm.MethodName) ({ cls := "WaitedCommitsModel", name := "forget", desc := "(I)V" } : Jvm.MethodName)),
  (Jvm.Cond.selects "WaitedCommitsModel" ({ cls := "WaitedCommitsModel", name := "active", desc := "(I)Z" } : Jvm.MethodName) ({ cls := "WaitedCommitsModel", name := "active", desc := "(I)Z" } : Jvm.MethodName)),
  (Jvm.Cond.selects "WaitedCommitsModel" ({ cls := "WaitedCommitsModel", name := "take", desc := "(III)Z" } : Jvm.MethodName) ({ cls := "WaitedCommitsModel", name := "take", desc := "(III)Z" } : Jvm.MethodName)),
  (Jvm.Cond.selects "WaitedCommitsModel" ({ cls := "WaitedCommitsModel", name := "conflicts", desc := "(IIII)Z" } : Jvm.MethodName) ({ cls := "WaitedCommitsModel", name := "conflicts", desc := "(IIII)Z" } : Jvm.MethodName)),
  (Jvm.Cond.selects "WaitedCommitsModel" ({ cls := "WaitedCommitsModel", name := "drop", desc := "(I)V" } : Jvm.MethodName) ({ cls := "WaitedCommitsModel", name := "drop", desc := "(I)V" } : Jvm.MethodName)),
  (Jvm.Cond.selects "WaitedCommitsModel" ({ cls := "WaitedCommitsModel", name := "find", desc := "(II)I" } : Jvm.MethodName) ({ cls := "WaitedCommitsModel", name := "find", desc := "(II)I" } : Jvm.MethodName)),
  (Jvm.Cond.selects "WaitedCommitsModel" ({ cls := "WaitedCommitsModel", name := "sendAll", desc := "(III)V" } : Jvm.MethodName) ({ cls := "WaitedCommitsModel", name := "sendAll", desc := "(III)V" } : Jvm.MethodName)),
  (Jvm.Cond.selects "WaitedCommitsModel" ({ cls := "WaitedCommitsModel", name := "send", desc := "(IIII)V" } : Jvm.MethodName) ({ cls := "WaitedCommitsModel", name := "send", desc := "(IIII)V" } : Jvm.MethodName)),
  (Jvm.Cond.selects "WaitedCommitsModel" ({ cls := "WaitedCommitsModel", name := "stampIfAll", desc := "(I)V" } : Jvm.MethodName) ({ cls := "WaitedCommitsModel", name := "stampIfAll", desc := "(I)V" } : Jvm.MethodName)),
  (Jvm.Cond.selects "WaitedCommitsModel" ({ cls := "WaitedCommitsModel", name := "put", desc := "(III)V" } : Jvm.MethodName) ({ cls := "WaitedCommitsModel", name := "put", desc := "(III)V" } : Jvm.MethodName)),
  (Jvm.Cond.selects "WaitedCommitsModel" ({ cls := "WaitedCommitsModel", name := "next", desc := "()I" } : Jvm.MethodName) ({ cls := "WaitedCommitsModel", name := "next", desc := "()I" } : Jvm.MethodName)),
  (Jvm.Cond.selects "WaitedCommitsModel" ({ cls := "WaitedCommitsModel", name := "deal", desc := "(I)V" } : Jvm.MethodName) ({ cls := "WaitedCommitsModel", name := "deal", desc := "(I)V" } : Jvm.MethodName)),
  (Jvm.Cond.selects "WaitedCommitsModel" ({ cls := "WaitedCommitsModel", name := "finish", desc := "(II)V" } : Jvm.MethodName) ({ cls := "WaitedCommitsModel", name := "finish", desc := "(II)V" } : Jvm.MethodName)),
  (Jvm.Cond.selects "WaitedCommitsModel" ({ cls := "WaitedCommitsModel", name := "raise", desc := "(II)V" } : Jvm.MethodName) ({ cls := "WaitedCommitsModel", name := "raise", desc := "(II)V" } : Jvm.MethodName))]
def wc_gw (w : Cond) : Bool := match w with
  | .fieldLinkNest .. => true
  | .methodLinkNest .. => true
  | w => w.onTables && w.keeps
theorem wc_gw_on {w : Cond} (h : wc_gw w = true) : w.onTables = true := by
  unfold wc_gw at h
  split at h
  · rfl
  · rfl
  · exact (Bool.and_eq_true _ _ ▸ h).1
theorem wc_gw_ok : ∀ w ∈ wc_tb, wc_gw w = true := List.all_eq_true.mp (by decide +kernel)
theorem wc_tb_on (w : Cond) (hw : w ∈ wc_tb) : w.onTables = true := wc_gw_on (wc_gw_ok w hw)
theorem wc_tb_warm {args : Array Value} {s U : State} (hW : s.WarmedH U.vm) (hts : ∀ w ∈ wc_tb, w.before args s = true) : ∀ w ∈ wc_tb, va_Nw w U := by
  intro w hw
  have h := wc_gw_ok w hw
  have hb := hts w hw
  unfold wc_gw at h
  split at h
  · exact va_Nw.warmF hW (va_Nw.of rfl hb)
  · exact va_Nw.warmM hW (va_Nw.of rfl hb)
  · exact word_at hW (Or.inl h) hb
theorem tw_0 : (Jvm.Cond.initialized "WaitedCommitsLaw") ∈ wc_tb := List.mem_of_getElem? (i := 0) rfl
theorem tw_1 : (Jvm.Cond.initialized "WaitedCommits") ∈ wc_tb := List.mem_of_getElem? (i := 1) rfl
theorem tw_2 : (Jvm.Cond.initialized "java/lang/Math") ∈ wc_tb := List.mem_of_getElem? (i := 2) rfl
theorem tw_3 : (Jvm.Cond.initialized "WaitedCommits$Site") ∈ wc_tb := List.mem_of_getElem? (i := 3) rfl
theorem tw_4 : (Jvm.Cond.initialized "WaitedCommits$Key") ∈ wc_tb := List.mem_of_getElem? (i := 4) rfl
theorem tw_5 : (Jvm.Cond.initialized "WaitedCommits$Transaction") ∈ wc_tb := List.mem_of_getElem? (i := 5) rfl
theorem tw_6 : (Jvm.Cond.initialized "WaitedCommits$Message") ∈ wc_tb := List.mem_of_getElem? (i := 6) rfl
theorem tw_7 : (Jvm.Cond.initialized "WaitedCommitsModel") ∈ wc_tb := List.mem_of_getElem? (i := 7) rfl
theorem tw_8 : (Jvm.Cond.classLink "WaitedCommitsLaw" (7 : Nat) "WaitedCommits") ∈ wc_tb := List.mem_of_getElem? (i := 8) rfl
theorem tw_9 : (Jvm.Cond.instantiable "WaitedCommits" (9 : Nat)) ∈ wc_tb := List.mem_of_getElem? (i := 9) rfl
theorem tw_10 : (Jvm.Cond.methodLink "WaitedCommitsLaw" (15 : Nat) ({ cls := "WaitedCommits", name := "<init>", desc := "(I)V" } : Jvm.MethodName)) ∈ wc_tb := List.mem_of_getElem? (i := 10) rfl
theorem tw_11 : (Jvm.Cond.instanceMethod ({ cls := "WaitedCommits", name := "<init>", desc := "(I)V" } : Jvm.MethodName)) ∈ wc_tb := List.mem_of_getElem? (i := 11) rfl
theorem tw_12 : (Jvm.Cond.code ({ cls := "WaitedCommits", name := "<init>", desc := "(I)V" } : Jvm.MethodName) prog_1_method_1_code (4 : Nat) (Option.none : Option Jvm.ClassFile.FieldType)) ∈ wc_tb := List.mem_of_getElem? (i := 12) rfl
theorem tw_13 : (Jvm.Cond.methodLink "WaitedCommits" (1 : Nat) ({ cls := "java/lang/Object", name := "<init>", desc := "()V" } : Jvm.MethodName)) ∈ wc_tb := List.mem_of_getElem? (i := 13) rfl
theorem tw_14 : (Jvm.Cond.instanceMethod ({ cls := "java/lang/Object", name := "<init>", desc := "()V" } : Jvm.MethodName)) ∈ wc_tb := List.mem_of_getElem? (i := 14) rfl
theorem tw_15 : (Jvm.Cond.code ({ cls := "java/lang/Object", name := "<init>", desc := "()V" } : Jvm.MethodName) object_method_1_code (1 : Nat) (Option.none : Option Jvm.ClassFile.FieldType)) ∈ wc_tb := List.mem_of_getElem? (i := 15) rfl
theorem tw_16 : (Jvm.Cond.classLink "WaitedCommits" (9 : Nat) "WaitedCommits$Site") ∈ wc_tb := List.mem_of_getElem? (i := 16) rfl
theorem tw_17 : (Jvm.Cond.classLink "WaitedCommits" (15 : Nat) "WaitedCommits$Key") ∈ wc_tb := List.mem_of_getElem? (i := 17) rfl
theorem tw_18 : (Jvm.Cond.classLink "WaitedCommits" (21 : Nat) "WaitedCommits$Transaction") ∈ wc_tb := List.mem_of_getElem? (i := 18) rfl
theorem tw_19 : (Jvm.Cond.classLink "WaitedCommits" (27 : Nat) "WaitedCommits$Message") ∈ wc_tb := List.mem_of_getElem? (i := 19) rfl
theorem tw_20 : (Jvm.Cond.methodLink "WaitedCommits" (46 : Nat) ({ cls := "java/lang/Math", name := "min", desc := "(II)I" } : Jvm.MethodName)) ∈ wc_tb := List.mem_of_getElem? (i := 20) rfl
theorem tw_21 : (Jvm.Cond.static ({ cls := "java/lang/Math", name := "min", desc := "(II)I" } : Jvm.MethodName)) ∈ wc_tb := List.mem_of_getElem? (i := 21) rfl
theorem tw_22 : (Jvm.Cond.code ({ cls := "java/lang/Math", name := "min", desc := "(II)I" } : Jvm.MethodName) prog_8_method_69_code (2 : Nat) (Option.some Jvm.ClassFile.FieldType.int)) ∈ wc_tb := List.mem_of_getElem? (i := 22) rfl
theorem tw_23 : (Jvm.Cond.methodLink "WaitedCommits" (52 : Nat) ({ cls := "java/lang/Math", name := "max", desc := "(II)I" } : Jvm.MethodName)) ∈ wc_tb := List.mem_of_getElem? (i := 23) rfl
theorem tw_24 : (Jvm.Cond.static ({ cls := "java/lang/Math", name := "max", desc := "(II)I" } : Jvm.MethodName)) ∈ wc_tb := List.mem_of_getElem? (i := 24) rfl
theorem tw_25 : (Jvm.Cond.code ({ cls := "java/lang/Math", name := "max", desc := "(II)I" } : Jvm.MethodName) prog_8_method_65_code (2 : Nat) (Option.some Jvm.ClassFile.FieldType.int)) ∈ wc_tb := List.mem_of_getElem? (i := 25) rfl
theorem tw_26 : (Jvm.Cond.instantiable "WaitedCommits$Site" (5 : Nat)) ∈ wc_tb := List.mem_of_getElem? (i := 26) rfl
theorem tw_27 : (Jvm.Cond.methodLinkNest "WaitedCommits" (58 : Nat) ({ cls := "WaitedCommits$Site", name := "<init>", desc := "(I)V" } : Jvm.MethodName) "WaitedCommits") ∈ wc_tb := List.mem_of_getElem? (i := 27) rfl
theorem tw_28 : (Jvm.Cond.instanceMethod ({ cls := "WaitedCommits$Site", name := "<init>", desc := "(I)V" } : Jvm.MethodName)) ∈ wc_tb := List.mem_of_getElem? (i := 28) rfl
theorem tw_29 : (Jvm.Cond.code ({ cls := "WaitedCommits$Site", name := "<init>", desc := "(I)V" } : Jvm.MethodName) prog_4_method_1_code (2 : Nat) (Option.none : Option Jvm.ClassFile.FieldType)) ∈ wc_tb := List.mem_of_getElem? (i := 29) rfl
theorem tw_30 : (Jvm.Cond.methodLink "WaitedCommits$Site" (1 : Nat) ({ cls := "java/lang/Object", name := "<init>", desc := "()V" } : Jvm.MethodName)) ∈ wc_tb := List.mem_of_getElem? (i := 30) rfl
theorem tw_31 : (Jvm.Cond.fieldLink "WaitedCommits$Site" (20 : Nat) "WaitedCommits$Site" "before" "I") ∈ wc_tb := List.mem_of_getElem? (i := 31) rfl
theorem tw_32 : (Jvm.Cond.fieldLinkNest "WaitedCommits" (73 : Nat) "WaitedCommits$Site" "before" "I" "WaitedCommits") ∈ wc_tb := List.mem_of_getElem? (i := 32) rfl
theorem tw_33 : (Jvm.Cond.fieldLink "WaitedCommits$Site" (23 : Nat) "WaitedCommits$Site" "after" "I") ∈ wc_tb := List.mem_of_getElem? (i := 33) rfl
theorem tw_34 : (Jvm.Cond.fieldLinkNest "WaitedCommits" (76 : Nat) "WaitedCommits$Site" "after" "I" "WaitedCommits") ∈ wc_tb := List.mem_of_getElem? (i := 34) rfl
theorem tw_35 : (Jvm.Cond.fieldLink "WaitedCommits$Site" (7 : Nat) "WaitedCommits$Site" "delay" "I") ∈ wc_tb := List.mem_of_getElem? (i := 35) rfl
theorem tw_36 : (Jvm.Cond.fieldLinkNest "WaitedCommits" (79 : Nat) "WaitedCommits$Site" "delay" "I" "WaitedCommits") ∈ wc_tb := List.mem_of_getElem? (i := 36) rfl
theorem tw_37 : (Jvm.Cond.fieldLink "WaitedCommits$Site" (13 : Nat) "WaitedCommits$Site" "isUp" "Z") ∈ wc_tb := List.mem_of_getElem? (i := 37) rfl
theorem tw_38 : (Jvm.Cond.fieldLinkNest "WaitedCommits" (82 : Nat) "WaitedCommits$Site" "isUp" "Z" "WaitedCommits") ∈ wc_tb := List.mem_of_getElem? (i := 38) rfl
theorem tw_39 : (Jvm.Cond.fieldLink "WaitedCommits$Site" (17 : Nat) "WaitedCommits$Site" "bound" "I") ∈ wc_tb := List.mem_of_getElem? (i := 39) rfl
theorem tw_40 : (Jvm.Cond.fieldLinkNest "WaitedCommits" (168 : Nat) "WaitedCommits$Site" "bound" "I" "WaitedCommits") ∈ wc_tb := List.mem_of_getElem? (i := 40) rfl
theorem tw_41 : (Jvm.Cond.lays "WaitedCommits$Site" "WaitedCommits$Site" "before" "I") ∈ wc_tb := List.mem_of_getElem? (i := 41) rfl
theorem tw_42 : (Jvm.Cond.lays "WaitedCommits$Site" "WaitedCommits$Site" "after" "I") ∈ wc_tb := List.mem_of_getElem? (i := 42) rfl
theorem tw_43 : (Jvm.Cond.lays "WaitedCommits$Site" "WaitedCommits$Site" "delay" "I") ∈ wc_tb := List.mem_of_getElem? (i := 43) rfl
theorem tw_44 : (Jvm.Cond.lays "WaitedCommits$Site" "WaitedCommits$Site" "isUp" "Z") ∈ wc_tb := List.mem_of_getElem? (i := 44) rfl
theorem tw_45 : (Jvm.Cond.lays "WaitedCommits$Site" "WaitedCommits$Site" "bound" "I") ∈ wc_tb := List.mem_of_getElem? (i := 45) rfl
theorem tw_46 : (Jvm.Cond.instantiable "WaitedCommits$Key" (3 : Nat)) ∈ wc_tb := List.mem_of_getElem? (i := 46) rfl
theorem tw_47 : (Jvm.Cond.methodLinkNest "WaitedCommits" (61 : Nat) ({ cls := "WaitedCommits$Key", name := "<init>", desc := "()V" } : Jvm.MethodName) "WaitedCommits") ∈ wc_tb := List.mem_of_getElem? (i := 47) rfl
theorem tw_48 : (Jvm.Cond.instanceMethod ({ cls := "WaitedCommits$Key", name := "<init>", desc := "()V" } : Jvm.MethodName)) ∈ wc_tb := List.mem_of_getElem? (i := 48) rfl
theorem tw_49 : (Jvm.Cond.code ({ cls := "WaitedCommits$Key", name := "<init>", desc := "()V" } : Jvm.MethodName) prog_2_method_1_code (1 : Nat) (Option.none : Option Jvm.ClassFile.FieldType)) ∈ wc_tb := List.mem_of_getElem? (i := 49) rfl
theorem tw_50 : (Jvm.Cond.methodLink "WaitedCommits$Key" (3 : Nat) ({ cls := "java/lang/Object", name := "<init>", desc := "()V" } : Jvm.MethodName)) ∈ wc_tb := List.mem_of_getElem? (i := 50) rfl
theorem tw_51 : (Jvm.Cond.fieldLink "WaitedCommits$Key" (9 : Nat) "WaitedCommits$Key" "values" "[I") ∈ wc_tb := List.mem_of_getElem? (i := 51) rfl
theorem tw_52 : (Jvm.Cond.fieldLinkNest "WaitedCommits" (118 : Nat) "WaitedCommits$Key" "values" "[I" "WaitedCommits") ∈ wc_tb := List.mem_of_getElem? (i := 52) rfl
theorem tw_53 : (Jvm.Cond.fieldLink "WaitedCommits$Key" (15 : Nat) "WaitedCommits$Key" "stamps" "[I") ∈ wc_tb := List.mem_of_getElem? (i := 53) rfl
theorem tw_54 : (Jvm.Cond.fieldLinkNest "WaitedCommits" (174 : Nat) "WaitedCommits$Key" "stamps" "[I" "WaitedCommits") ∈ wc_tb := List.mem_of_getElem? (i := 54) rfl
theorem tw_55 : (Jvm.Cond.fieldLink "WaitedCommits$Key" (18 : Nat) "WaitedCommits$Key" "count" "I") ∈ wc_tb := List.mem_of_getElem? (i := 55) rfl
theorem tw_56 : (Jvm.Cond.fieldLinkNest "WaitedCommits" (171 : Nat) "WaitedCommits$Key" "count" "I" "WaitedCommits") ∈ wc_tb := List.mem_of_getElem? (i := 56) rfl
theorem tw_57 : (Jvm.Cond.laysFinal "WaitedCommits$Key" "WaitedCommits$Key" "values" "[I") ∈ wc_tb := List.mem_of_getElem? (i := 57) rfl
theorem tw_58 : (Jvm.Cond.laysFinal "WaitedCommits$Key" "WaitedCommits$Key" "stamps" "[I") ∈ wc_tb := List.mem_of_getElem? (i := 58) rfl
theorem tw_59 : (Jvm.Cond.lays "WaitedCommits$Key" "WaitedCommits$Key" "count" "I") ∈ wc_tb := List.mem_of_getElem? (i := 59) rfl
theorem tw_60 : (Jvm.Cond.instantiable "WaitedCommits$Transaction" (10 : Nat)) ∈ wc_tb := List.mem_of_getElem? (i := 60) rfl
theorem tw_61 : (Jvm.Cond.methodLinkNest "WaitedCommits" (62 : Nat) ({ cls := "WaitedCommits$Transaction", name := "<init>", desc := "()V" } : Jvm.MethodName) "WaitedCommits") ∈ wc_tb := List.mem_of_getElem? (i := 61) rfl
theorem tw_62 : (Jvm.Cond.instanceMethod ({ cls := "WaitedCommits$Transaction", name := "<init>", desc := "()V" } : Jvm.MethodName)) ∈ wc_tb := List.mem_of_getElem? (i := 62) rfl
theorem tw_63 : (Jvm.Cond.code ({ cls := "WaitedCommits$Transaction", name := "<init>", desc := "()V" } : Jvm.MethodName) prog_5_method_1_code (1 : Nat) (Option.none : Option Jvm.ClassFile.FieldType)) ∈ wc_tb := List.mem_of_getElem? (i := 63) rfl
theorem tw_64 : (Jvm.Cond.methodLink "WaitedCommits$Transaction" (3 : Nat) ({ cls := "java/lang/Object", name := "<init>", desc := "()V" } : Jvm.MethodName)) ∈ wc_tb := List.mem_of_getElem? (i := 64) rfl
theorem tw_65 : (Jvm.Cond.fieldLink "WaitedCommits$Transaction" (9 : Nat) "WaitedCommits$Transaction" "state" "I") ∈ wc_tb := List.mem_of_getElem? (i := 65) rfl
theorem tw_66 : (Jvm.Cond.fieldLinkNest "WaitedCommits" (93 : Nat) "WaitedCommits$Transaction" "state" "I" "WaitedCommits") ∈ wc_tb := List.mem_of_getElem? (i := 66) rfl
theorem tw_67 : (Jvm.Cond.fieldLink "WaitedCommits$Transaction" (15 : Nat) "WaitedCommits$Transaction" "birth" "I") ∈ wc_tb := List.mem_of_getElem? (i := 67) rfl
theorem tw_68 : (Jvm.Cond.fieldLinkNest "WaitedCommits" (96 : Nat) "WaitedCommits$Transaction" "birth" "I" "WaitedCommits") ∈ wc_tb := List.mem_of_getElem? (i := 68) rfl
theorem tw_69 : (Jvm.Cond.fieldLink "WaitedCommits$Transaction" (18 : Nat) "WaitedCommits$Transaction" "coordinator" "I") ∈ wc_tb := List.mem_of_getElem? (i := 69) rfl
theorem tw_70 : (Jvm.Cond.fieldLinkNest "WaitedCommits" (125 : Nat) "WaitedCommits$Transaction" "coordinator" "I" "WaitedCommits") ∈ wc_tb := List.mem_of_getElem? (i := 70) rfl
theorem tw_71 : (Jvm.Cond.fieldLink "WaitedCommits$Transaction" (21 : Nat) "WaitedCommits$Transaction" "floor" "I") ∈ wc_tb := List.mem_of_getElem? (i := 71) rfl
theorem tw_72 : (Jvm.Cond.fieldLinkNest "WaitedCommits" (191 : Nat) "WaitedCommits$Transaction" "floor" "I" "WaitedCommits") ∈ wc_tb := List.mem_of_getElem? (i := 72) rfl
theorem tw_73 : (Jvm.Cond.fieldLink "WaitedCommits$Transaction" (24 : Nat) "WaitedCommits$Transaction" "awaited" "I") ∈ wc_tb := List.mem_of_getElem? (i := 73) rfl
theorem tw_74 : (Jvm.Cond.fieldLinkNest "WaitedCommits" (197 : Nat) "WaitedCommits$Transaction" "awaited" "I" "WaitedCommits") ∈ wc_tb := List.mem_of_getElem? (i := 74) rfl
theorem tw_75 : (Jvm.Cond.fieldLink "WaitedCommits$Transaction" (27 : Nat) "WaitedCommits$Transaction" "stamp" "I") ∈ wc_tb := List.mem_of_getElem? (i := 75) rfl
theorem tw_76 : (Jvm.Cond.fieldLinkNest "WaitedCommits" (156 : Nat) "WaitedCommits$Transaction" "stamp" "I" "WaitedCommits") ∈ wc_tb := List.mem_of_getElem? (i := 76) rfl
theorem tw_77 : (Jvm.Cond.fieldLink "WaitedCommits$Transaction" (30 : Nat) "WaitedCommits$Transaction" "end" "I") ∈ wc_tb := List.mem_of_getElem? (i := 77) rfl
theorem tw_78 : (Jvm.Cond.fieldLinkNest "WaitedCommits" (159 : Nat) "WaitedCommits$Transaction" "end" "I" "WaitedCommits") ∈ wc_tb := List.mem_of_getElem? (i := 78) rfl
theorem tw_79 : (Jvm.Cond.fieldLink "WaitedCommits$Transaction" (33 : Nat) "WaitedCommits$Transaction" "locks" "[I") ∈ wc_tb := List.mem_of_getElem? (i := 79) rfl
theorem tw_80 : (Jvm.Cond.fieldLinkNest "WaitedCommits" (111 : Nat) "WaitedCommits$Transaction" "locks" "[I" "WaitedCommits") ∈ wc_tb := List.mem_of_getElem? (i := 80) rfl
theorem tw_81 : (Jvm.Cond.fieldLink "WaitedCommits$Transaction" (37 : Nat) "WaitedCommits$Transaction" "written" "[I") ∈ wc_tb := List.mem_of_getElem? (i := 81) rfl
theorem tw_82 : (Jvm.Cond.fieldLinkNest "WaitedCommits" (115 : Nat) "WaitedCommits$Transaction" "written" "[I" "WaitedCommits") ∈ wc_tb := List.mem_of_getElem? (i := 82) rfl
theorem tw_83 : (Jvm.Cond.fieldLink "WaitedCommits$Transaction" (40 : Nat) "WaitedCommits$Transaction" "marks" "[I") ∈ wc_tb := List.mem_of_getElem? (i := 83) rfl
theorem tw_84 : (Jvm.Cond.fieldLinkNest "WaitedCommits" (162 : Nat) "WaitedCommits$Transaction" "marks" "[I" "WaitedCommits") ∈ wc_tb := List.mem_of_getElem? (i := 84) rfl
theorem tw_85 : (Jvm.Cond.lays "WaitedCommits$Transaction" "WaitedCommits$Transaction" "state" "I") ∈ wc_tb := List.mem_of_getElem? (i := 85) rfl
theorem tw_86 : (Jvm.Cond.lays "WaitedCommits$Transaction" "WaitedCommits$Transaction" "birth" "I") ∈ wc_tb := List.mem_of_getElem? (i := 86) rfl
theorem tw_87 : (Jvm.Cond.lays "WaitedCommits$Transaction" "WaitedCommits$Transaction" "coordinator" "I") ∈ wc_tb := List.mem_of_getElem? (i := 87) rfl
theorem tw_88 : (Jvm.Cond.lays "WaitedCommits$Transaction" "WaitedCommits$Transaction" "floor" "I") ∈ wc_tb := List.mem_of_getElem? (i := 88) rfl
theorem tw_89 : (Jvm.Cond.lays "WaitedCommits$Transaction" "WaitedCommits$Transaction" "awaited" "I") ∈ wc_tb := List.mem_of_getElem? (i := 89) rfl
theorem tw_90 : (Jvm.Cond.lays "WaitedCommits$Transaction" "WaitedCommits$Transaction" "stamp" "I") ∈ wc_tb := List.mem_of_getElem? (i := 90) rfl
theorem tw_91 : (Jvm.Cond.lays "WaitedCommits$Transaction" "WaitedCommits$Transaction" "end" "I") ∈ wc_tb := List.mem_of_getElem? (i := 91) rfl
theorem tw_92 : (Jvm.Cond.laysFinal "WaitedCommits$Transaction" "WaitedCommits$Transaction" "locks" "[I") ∈ wc_tb := List.mem_of_getElem? (i := 92) rfl
theorem tw_93 : (Jvm.Cond.laysFinal "WaitedCommits$Transaction" "WaitedCommits$Transaction" "written" "[I") ∈ wc_tb := List.mem_of_getElem? (i := 93) rfl
theorem tw_94 : (Jvm.Cond.laysFinal "WaitedCommits$Transaction" "WaitedCommits$Transaction" "marks" "[I") ∈ wc_tb := List.mem_of_getElem? (i := 94) rfl
theorem tw_95 : (Jvm.Cond.instantiable "WaitedCommits$Message" (6 : Nat)) ∈ wc_tb := List.mem_of_getElem? (i := 95) rfl
theorem tw_96 : (Jvm.Cond.methodLinkNest "WaitedCommits" (63 : Nat) ({ cls := "WaitedCommits$Message", name := "<init>", desc := "(II)V" } : Jvm.MethodName) "WaitedCommits") ∈ wc_tb := List.mem_of_getElem? (i := 96) rfl
theorem tw_97 : (Jvm.Cond.instanceMethod ({ cls := "WaitedCommits$Message", name := "<init>", desc := "(II)V" } : Jvm.MethodName)) ∈ wc_tb := List.mem_of_getElem? (i := 97) rfl
theorem tw_98 : (Jvm.Cond.code ({ cls := "WaitedCommits$Message", name := "<init>", desc := "(II)V" } : Jvm.MethodName) prog_3_method_1_code (3 : Nat) (Option.none : Option Jvm.ClassFile.FieldType)) ∈ wc_tb := List.mem_of_getElem? (i := 98) rfl
theorem tw_99 : (Jvm.Cond.methodLink "WaitedCommits$Message" (3 : Nat) ({ cls := "java/lang/Object", name := "<init>", desc := "()V" } : Jvm.MethodName)) ∈ wc_tb := List.mem_of_getElem? (i := 99) rfl
theorem tw_100 : (Jvm.Cond.fieldLink "WaitedCommits$Message" (24 : Nat) "WaitedCommits$Message" "transaction" "I") ∈ wc_tb := List.mem_of_getElem? (i := 100) rfl
theorem tw_101 : (Jvm.Cond.fieldLinkNest "WaitedCommits" (238 : Nat) "WaitedCommits$Message" "transaction" "I" "WaitedCommits") ∈ wc_tb := List.mem_of_getElem? (i := 101) rfl
theorem tw_102 : (Jvm.Cond.fieldLink "WaitedCommits$Message" (27 : Nat) "WaitedCommits$Message" "participant" "I") ∈ wc_tb := List.mem_of_getElem? (i := 102) rfl
theorem tw_103 : (Jvm.Cond.fieldLinkNest "WaitedCommits" (241 : Nat) "WaitedCommits$Message" "participant" "I" "WaitedCommits") ∈ wc_tb := List.mem_of_getElem? (i := 103) rfl
theorem tw_104 : (Jvm.Cond.fieldLink "WaitedCommits$Message" (9 : Nat) "WaitedCommits$Message" "kind" "I") ∈ wc_tb := List.mem_of_getElem? (i := 104) rfl
theorem tw_105 : (Jvm.Cond.fieldLinkNest "WaitedCommits" (211 : Nat) "WaitedCommits$Message" "kind" "I" "WaitedCommits") ∈ wc_tb := List.mem_of_getElem? (i := 105) rfl
theorem tw_106 : (Jvm.Cond.fieldLink "WaitedCommits$Message" (15 : Nat) "WaitedCommits$Message" "receiver" "I") ∈ wc_tb := List.mem_of_getElem? (i := 106) rfl
theorem tw_107 : (Jvm.Cond.fieldLinkNest "WaitedCommits" (214 : Nat) "WaitedCommits$Message" "receiver" "I" "WaitedCommits") ∈ wc_tb := List.mem_of_getElem? (i := 107) rfl
theorem tw_108 : (Jvm.Cond.fieldLink "WaitedCommits$Message" (18 : Nat) "WaitedCommits$Message" "arrival" "I") ∈ wc_tb := List.mem_of_getElem? (i := 108) rfl
theorem tw_109 : (Jvm.Cond.fieldLinkNest "WaitedCommits" (217 : Nat) "WaitedCommits$Message" "arrival" "I" "WaitedCommits") ∈ wc_tb := List.mem_of_getElem? (i := 109) rfl
theorem tw_110 : (Jvm.Cond.fieldLink "WaitedCommits$Message" (21 : Nat) "WaitedCommits$Message" "order" "I") ∈ wc_tb := List.mem_of_getElem? (i := 110) rfl
theorem tw_111 : (Jvm.Cond.fieldLinkNest "WaitedCommits" (220 : Nat) "WaitedCommits$Message" "order" "I" "WaitedCommits") ∈ wc_tb := List.mem_of_getElem? (i := 111) rfl
theorem tw_112 : (Jvm.Cond.laysFinal "WaitedCommits$Message" "WaitedCommits$Message" "transaction" "I") ∈ wc_tb := List.mem_of_getElem? (i := 112) rfl
theorem tw_113 : (Jvm.Cond.laysFinal "WaitedCommits$Message" "WaitedCommits$Message" "participant" "I") ∈ wc_tb := List.mem_of_getElem? (i := 113) rfl
theorem tw_114 : (Jvm.Cond.lays "WaitedCommits$Message" "WaitedCommits$Message" "kind" "I") ∈ wc_tb := List.mem_of_getElem? (i := 114) rfl
theorem tw_115 : (Jvm.Cond.lays "WaitedCommits$Message" "WaitedCommits$Message" "receiver" "I") ∈ wc_tb := List.mem_of_getElem? (i := 115) rfl
theorem tw_116 : (Jvm.Cond.lays "WaitedCommits$Message" "WaitedCommits$Message" "arrival" "I") ∈ wc_tb := List.mem_of_getElem? (i := 116) rfl
theorem tw_117 : (Jvm.Cond.lays "WaitedCommits$Message" "WaitedCommits$Message" "order" "I") ∈ wc_tb := List.mem_of_getElem? (i := 117) rfl
theorem tw_118 : (Jvm.Cond.fieldLink "WaitedCommits" (55 : Nat) "WaitedCommits" "greatestError" "I") ∈ wc_tb := List.mem_of_getElem? (i := 118) rfl
theorem tw_119 : (Jvm.Cond.fieldLink "WaitedCommits" (11 : Nat) "WaitedCommits" "sites" "[LWaitedCommits$Site;") ∈ wc_tb := List.mem_of_getElem? (i := 119) rfl
theorem tw_120 : (Jvm.Cond.fieldLink "WaitedCommits" (17 : Nat) "WaitedCommits" "keys" "[LWaitedCommits$Key;") ∈ wc_tb := List.mem_of_getElem? (i := 120) rfl
theorem tw_121 : (Jvm.Cond.fieldLink "WaitedCommits" (23 : Nat) "WaitedCommits" "transactions" "[LWaitedCommits$Transaction;") ∈ wc_tb := List.mem_of_getElem? (i := 121) rfl
theorem tw_122 : (Jvm.Cond.fieldLink "WaitedCommits" (29 : Nat) "WaitedCommits" "slots" "[LWaitedCommits$Message;") ∈ wc_tb := List.mem_of_getElem? (i := 122) rfl
theorem tw_123 : (Jvm.Cond.fieldLink "WaitedCommits" (33 : Nat) "WaitedCommits" "time" "I") ∈ wc_tb := List.mem_of_getElem? (i := 123) rfl
theorem tw_124 : (Jvm.Cond.fieldLink "WaitedCommits" (37 : Nat) "WaitedCommits" "begun" "I") ∈ wc_tb := List.mem_of_getElem? (i := 124) rfl
theorem tw_125 : (Jvm.Cond.fieldLink "WaitedCommits" (40 : Nat) "WaitedCommits" "sent" "I") ∈ wc_tb := List.mem_of_getElem? (i := 125) rfl
theorem tw_126 : (Jvm.Cond.fieldLink "WaitedCommits" (43 : Nat) "WaitedCommits" "underWay" "I") ∈ wc_tb := List.mem_of_getElem? (i := 126) rfl
theorem tw_127 : (Jvm.Cond.laysFinal "WaitedCommits" "WaitedCommits" "greatestError" "I") ∈ wc_tb := List.mem_of_getElem? (i := 127) rfl
theorem tw_128 : (Jvm.Cond.laysFinal "WaitedCommits" "WaitedCommits" "sites" "[LWaitedCommits$Site;") ∈ wc_tb := List.mem_of_getElem? (i := 128) rfl
theorem tw_129 : (Jvm.Cond.laysFinal "WaitedCommits" "WaitedCommits" "keys" "[LWaitedCommits$Key;") ∈ wc_tb := List.mem_of_getElem? (i := 129) rfl
theorem tw_130 : (Jvm.Cond.laysFinal "WaitedCommits" "WaitedCommits" "transactions" "[LWaitedCommits$Transaction;") ∈ wc_tb := List.mem_of_getElem? (i := 130) rfl
theorem tw_131 : (Jvm.Cond.laysFinal "WaitedCommits" "WaitedCommits" "slots" "[LWaitedCommits$Message;") ∈ wc_tb := List.mem_of_getElem? (i := 131) rfl
theorem tw_132 : (Jvm.Cond.lays "WaitedCommits" "WaitedCommits" "time" "I") ∈ wc_tb := List.mem_of_getElem? (i := 132) rfl
theorem tw_133 : (Jvm.Cond.lays "WaitedCommits" "WaitedCommits" "begun" "I") ∈ wc_tb := List.mem_of_getElem? (i := 133) rfl
theorem tw_134 : (Jvm.Cond.lays "WaitedCommits" "WaitedCommits" "sent" "I") ∈ wc_tb := List.mem_of_getElem? (i := 134) rfl
theorem tw_135 : (Jvm.Cond.lays "WaitedCommits" "WaitedCommits" "underWay" "I") ∈ wc_tb := List.mem_of_getElem? (i := 135) rfl
theorem tw_136 : (Jvm.Cond.methodLink "WaitedCommitsLaw" (21 : Nat) ({ cls := "WaitedCommits", name := "clock", desc := "(III)Z" } : Jvm.MethodName)) ∈ wc_tb := List.mem_of_getElem? (i := 136) rfl
theorem tw_137 : (Jvm.Cond.instanceMethod ({ cls := "WaitedCommits", name := "clock", desc := "(III)Z" } : Jvm.MethodName)) ∈ wc_tb := List.mem_of_getElem? (i := 137) rfl
theorem tw_138 : (Jvm.Cond.selects "WaitedCommits" ({ cls := "WaitedCommits", name := "clock", desc := "(III)Z" } : Jvm.MethodName) ({ cls := "WaitedCommits", name := "clock", desc := "(III)Z" } : Jvm.MethodName)) ∈ wc_tb := List.mem_of_getElem? (i := 138) rfl
theorem tw_139 : (Jvm.Cond.code ({ cls := "WaitedCommits", name := "clock", desc := "(III)Z" } : Jvm.MethodName) prog_1_method_2_code (4 : Nat) (Option.some Jvm.ClassFile.FieldType.boolean)) ∈ wc_tb := List.mem_of_getElem? (i := 139) rfl
theorem tw_140 : (Jvm.Cond.methodLink "WaitedCommits" (66 : Nat) ({ cls := "WaitedCommits", name := "isSite", desc := "(I)Z" } : Jvm.MethodName)) ∈ wc_tb := List.mem_of_getElem? (i := 140) rfl
theorem tw_141 : (Jvm.Cond.static ({ cls := "WaitedCommits", name := "isSite", desc := "(I)Z" } : Jvm.MethodName)) ∈ wc_tb := List.mem_of_getElem? (i := 141) rfl
theorem tw_142 : (Jvm.Cond.code ({ cls := "WaitedCommits", name := "isSite", desc := "(I)Z" } : Jvm.MethodName) prog_1_method_22_code (1 : Nat) (Option.some Jvm.ClassFile.FieldType.boolean)) ∈ wc_tb := List.mem_of_getElem? (i := 142) rfl
theorem tw_143 : (Jvm.Cond.methodLink "WaitedCommits" (70 : Nat) ({ cls := "WaitedCommits", name := "isError", desc := "(I)Z" } : Jvm.MethodName)) ∈ wc_tb := List.mem_of_getElem? (i := 143) rfl
theorem tw_144 : (Jvm.Cond.instanceMethod ({ cls := "WaitedCommits", name := "isError", desc := "(I)Z" } : Jvm.MethodName)) ∈ wc_tb := List.mem_of_getElem? (i := 144) rfl
theorem tw_145 : (Jvm.Cond.code ({ cls := "WaitedCommits", name := "isError", desc := "(I)Z" } : Jvm.MethodName) prog_1_method_27_code (2 : Nat) (Option.some Jvm.ClassFile.FieldType.boolean)) ∈ wc_tb := List.mem_of_getElem? (i := 145) rfl
theorem tw_146 : (Jvm.Cond.methodLink "WaitedCommitsLaw" (26 : Nat) ({ cls := "WaitedCommits", name := "delay", desc := "(II)Z" } : Jvm.MethodName)) ∈ wc_tb := List.mem_of_getElem? (i := 146) rfl
theorem tw_147 : (Jvm.Cond.instanceMethod ({ cls := "WaitedCommits", name := "delay", desc := "(II)Z" } : Jvm.MethodName)) ∈ wc_tb := List.mem_of_getElem? (i := 147) rfl
theorem tw_148 : (Jvm.Cond.selects "WaitedCommits" ({ cls := "WaitedCommits", name := "delay", desc := "(II)Z" } : Jvm.MethodName) ({ cls := "WaitedCommits", name := "delay", desc := "(II)Z" } : Jvm.MethodName)) ∈ wc_tb := List.mem_of_getElem? (i := 148) rfl
theorem tw_149 : (Jvm.Cond.code ({ cls := "WaitedCommits", name := "delay", desc := "(II)Z" } : Jvm.MethodName) prog_1_method_3_code (3 : Nat) (Option.some Jvm.ClassFile.FieldType.boolean)) ∈ wc_tb := List.mem_of_getElem? (i := 149) rfl
theorem tw_150 : (Jvm.Cond.methodLink "WaitedCommitsLaw" (31 : Nat) ({ cls := "WaitedCommits", name := "power", desc := "(IZ)Z" } : Jvm.MethodName)) ∈ wc_tb := List.mem_of_getElem? (i := 150) rfl
theorem tw_151 : (Jvm.Cond.instanceMethod ({ cls := "WaitedCommits", name := "power", desc := "(IZ)Z" } : Jvm.MethodName)) ∈ wc_tb := List.mem_of_getElem? (i := 151) rfl
theorem tw_152 : (Jvm.Cond.selects "WaitedCommits" ({ cls := "WaitedCommits", name := "power", desc := "(IZ)Z" } : Jvm.MethodName) ({ cls := "WaitedCommits", name := "power", desc := "(IZ)Z" } : Jvm.MethodName)) ∈ wc_tb := List.mem_of_getElem? (i := 152) rfl
theorem tw_153 : (Jvm.Cond.code ({ cls := "WaitedCommits", name := "power", desc := "(IZ)Z" } : Jvm.MethodName) prog_1_method_4_code (3 : Nat) (Option.some Jvm.ClassFile.FieldType.boolean)) ∈ wc_tb := List.mem_of_getElem? (i := 153) rfl
theorem tw_154 : (Jvm.Cond.methodLink "WaitedCommitsLaw" (36 : Nat) ({ cls := "WaitedCommits", name := "begin", desc := "(I)Z" } : Jvm.MethodName)) ∈ wc_tb := List.mem_of_getElem? (i := 154) rfl
theorem tw_155 : (Jvm.Cond.instanceMethod ({ cls := "WaitedCommits", name := "begin", desc := "(I)Z" } : Jvm.MethodName)) ∈ wc_tb := List.mem_of_getElem? (i := 155) rfl
theorem tw_156 : (Jvm.Cond.selects "WaitedCommits" ({ cls := "WaitedCommits", name := "begin", desc := "(I)Z" } : Jvm.MethodName) ({ cls := "WaitedCommits", name := "begin", desc := "(I)Z" } : Jvm.MethodName)) ∈ wc_tb := List.mem_of_getElem? (i := 156) rfl
theorem tw_157 : (Jvm.Cond.code ({ cls := "WaitedCommits", name := "begin", desc := "(I)Z" } : Jvm.MethodName) prog_1_method_5_code (2 : Nat) (Option.some Jvm.ClassFile.FieldType.boolean)) ∈ wc_tb := List.mem_of_getElem? (i := 157) rfl
theorem tw_158 : (Jvm.Cond.methodLink "WaitedCommits" (86 : Nat) ({ cls := "WaitedCommits", name := "isTransaction", desc := "(I)Z" } : Jvm.MethodName)) ∈ wc_tb := List.mem_of_getElem? (i := 158) rfl
theorem tw_159 : (Jvm.Cond.static ({ cls := "WaitedCommits", name := "isTransaction", desc := "(I)Z" } : Jvm.MethodName)) ∈ wc_tb := List.mem_of_getElem? (i := 159) rfl
theorem tw_160 : (Jvm.Cond.code ({ cls := "WaitedCommits", name := "isTransaction", desc := "(I)Z" } : Jvm.MethodName) prog_1_method_24_code (1 : Nat) (Option.some Jvm.ClassFile.FieldType.boolean)) ∈ wc_tb := List.mem_of_getElem? (i := 160) rfl
theorem tw_161 : (Jvm.Cond.methodLink "WaitedCommits" (89 : Nat) ({ cls := "WaitedCommits", name := "canBegin", desc := "(LWaitedCommits$Transaction;)Z" } : Jvm.MethodName)) ∈ wc_tb := List.mem_of_getElem? (i := 161) rfl
theorem tw_162 : (Jvm.Cond.static ({ cls := "WaitedCommits", name := "canBegin", desc := "(LWaitedCommits$Transaction;)Z" } : Jvm.MethodName)) ∈ wc_tb := List.mem_of_getElem? (i := 162) rfl
theorem tw_163 : (Jvm.Cond.code ({ cls := "WaitedCommits", name := "canBegin", desc := "(LWaitedCommits$Transaction;)Z" } : Jvm.MethodName) prog_1_method_26_code (2 : Nat) (Option.some Jvm.ClassFile.FieldType.boolean)) ∈ wc_tb := List.mem_of_getElem? (i := 163) rfl
theorem tw_164 : (Jvm.Cond.methodLinkNest "WaitedCommits" (121 : Nat) ({ cls := "WaitedCommits$Transaction", name := "leastParticipant", desc := "()I" } : Jvm.MethodName) "WaitedCommits") ∈ wc_tb := List.mem_of_getElem? (i := 164) rfl
theorem tw_165 : (Jvm.Cond.instanceMethod ({ cls := "WaitedCommits$Transaction", name := "leastParticipant", desc := "()I" } : Jvm.MethodName)) ∈ wc_tb := List.mem_of_getElem? (i := 165) rfl
theorem tw_166 : (Jvm.Cond.code ({ cls := "WaitedCommits$Transaction", name := "leastParticipant", desc := "()I" } : Jvm.MethodName) prog_5_method_3_code (2 : Nat) (Option.some Jvm.ClassFile.FieldType.int)) ∈ wc_tb := List.mem_of_getElem? (i := 166) rfl
theorem tw_167 : (Jvm.Cond.methodLink "WaitedCommits$Transaction" (43 : Nat) ({ cls := "WaitedCommits$Transaction", name := "holdsAt", desc := "(I)Z" } : Jvm.MethodName)) ∈ wc_tb := List.mem_of_getElem? (i := 167) rfl
theorem tw_168 : (Jvm.Cond.instanceMethod ({ cls := "WaitedCommits$Transaction", name := "holdsAt", desc := "(I)Z" } : Jvm.MethodName)) ∈ wc_tb := List.mem_of_getElem? (i := 168) rfl
theorem tw_169 : (Jvm.Cond.code ({ cls := "WaitedCommits$Transaction", name := "holdsAt", desc := "(I)Z" } : Jvm.MethodName) prog_5_method_2_code (3 : Nat) (Option.some Jvm.ClassFile.FieldType.boolean)) ∈ wc_tb := List.mem_of_getElem? (i := 169) rfl
theorem tw_170 : (Jvm.Cond.methodLink "WaitedCommitsLaw" (41 : Nat) ({ cls := "WaitedCommits", name := "read", desc := "(II)J" } : Jvm.MethodName)) ∈ wc_tb := List.mem_of_getElem? (i := 170) rfl
theorem tw_171 : (Jvm.Cond.instanceMethod ({ cls := "WaitedCommits", name := "read", desc := "(II)J" } : Jvm.MethodName)) ∈ wc_tb := List.mem_of_getElem? (i := 171) rfl
theorem tw_172 : (Jvm.Cond.selects "WaitedCommits" ({ cls := "WaitedCommits", name := "read", desc := "(II)J" } : Jvm.MethodName) ({ cls := "WaitedCommits", name := "read", desc := "(II)J" } : Jvm.MethodName)) ∈ wc_tb := List.mem_of_getElem? (i := 172) rfl
theorem tw_173 : (Jvm.Cond.code ({ cls := "WaitedCommits", name := "read", desc := "(II)J" } : Jvm.MethodName) prog_1_method_6_code (3 : Nat) (Option.some Jvm.ClassFile.FieldType.long)) ∈ wc_tb := List.mem_of_getElem? (i := 173) rfl
theorem tw_174 : (Jvm.Cond.methodLink "WaitedCommits" (99 : Nat) ({ cls := "WaitedCommits", name := "isActive", desc := "(I)Z" } : Jvm.MethodName)) ∈ wc_tb := List.mem_of_getElem? (i := 174) rfl
theorem tw_175 : (Jvm.Cond.instanceMethod ({ cls := "WaitedCommits", name := "isActive", desc := "(I)Z" } : Jvm.MethodName)) ∈ wc_tb := List.mem_of_getElem? (i := 175) rfl
theorem tw_176 : (Jvm.Cond.code ({ cls := "WaitedCommits", name := "isActive", desc := "(I)Z" } : Jvm.MethodName) prog_1_method_28_code (2 : Nat) (Option.some Jvm.ClassFile.FieldType.boolean)) ∈ wc_tb := List.mem_of_getElem? (i := 176) rfl
theorem tw_177 : (Jvm.Cond.methodLink "WaitedCommits" (102 : Nat) ({ cls := "WaitedCommits", name := "isKey", desc := "(I)Z" } : Jvm.MethodName)) ∈ wc_tb := List.mem_of_getElem? (i := 177) rfl
theorem tw_178 : (Jvm.Cond.static ({ cls := "WaitedCommits", name := "isKey", desc := "(I)Z" } : Jvm.MethodName)) ∈ wc_tb := List.mem_of_getElem? (i := 178) rfl
theorem tw_179 : (Jvm.Cond.code ({ cls := "WaitedCommits", name := "isKey", desc := "(I)Z" } : Jvm.MethodName) prog_1_method_23_code (1 : Nat) (Option.some Jvm.ClassFile.FieldType.boolean)) ∈ wc_tb := List.mem_of_getElem? (i := 179) rfl
theorem tw_180 : (Jvm.Cond.methodLink "WaitedCommits" (105 : Nat) ({ cls := "WaitedCommits", name := "lock", desc := "(LWaitedCommits$Transaction;II)Z" } : Jvm.MethodName)) ∈ wc_tb := List.mem_of_getElem? (i := 180) rfl
theorem tw_181 : (Jvm.Cond.instanceMethod ({ cls := "WaitedCommits", name := "lock", desc := "(LWaitedCommits$Transaction;II)Z" } : Jvm.MethodName)) ∈ wc_tb := List.mem_of_getElem? (i := 181) rfl
theorem tw_182 : (Jvm.Cond.code ({ cls := "WaitedCommits", name := "lock", desc := "(LWaitedCommits$Transaction;II)Z" } : Jvm.MethodName) prog_1_method_33_code (5 : Nat) (Option.some Jvm.ClassFile.FieldType.boolean)) ∈ wc_tb := List.mem_of_getElem? (i := 182) rfl
theorem tw_183 : (Jvm.Cond.methodLink "WaitedCommits" (134 : Nat) ({ cls := "WaitedCommits", name := "siteOf", desc := "(I)I" } : Jvm.MethodName)) ∈ wc_tb := List.mem_of_getElem? (i := 183) rfl
theorem tw_184 : (Jvm.Cond.static ({ cls := "WaitedCommits", name := "siteOf", desc := "(I)I" } : Jvm.MethodName)) ∈ wc_tb := List.mem_of_getElem? (i := 184) rfl
theorem tw_185 : (Jvm.Cond.code ({ cls := "WaitedCommits", name := "siteOf", desc := "(I)I" } : Jvm.MethodName) prog_1_method_25_code (1 : Nat) (Option.some Jvm.ClassFile.FieldType.int)) ∈ wc_tb := List.mem_of_getElem? (i := 185) rfl
theorem tw_186 : (Jvm.Cond.methodLink "WaitedCommits" (183 : Nat) ({ cls := "WaitedCommits", name := "conflicts", desc := "(LWaitedCommits$Transaction;LWaitedCommits$Transaction;II)Z" } : Jvm.MethodName)) ∈ wc_tb := List.mem_of_getElem? (i := 186) rfl
theorem tw_187 : (Jvm.Cond.static ({ cls := "WaitedCommits", name := "conflicts", desc := "(LWaitedCommits$Transaction;LWaitedCommits$Transaction;II)Z" } : Jvm.MethodName)) ∈ wc_tb := List.mem_of_getElem? (i := 187) rfl
theorem tw_188 : (Jvm.Cond.code ({ cls := "WaitedCommits", name := "conflicts", desc := "(LWaitedCommits$Transaction;LWaitedCommits$Transaction;II)Z" } : Jvm.MethodName) prog_1_method_34_code (4 : Nat) (Option.some Jvm.ClassFile.FieldType.boolean)) ∈ wc_tb := List.mem_of_getElem? (i := 188) rfl
theorem tw_189 : (Jvm.Cond.methodLink "WaitedCommits" (187 : Nat) ({ cls := "WaitedCommits", name := "canPushAside", desc := "(LWaitedCommits$Transaction;LWaitedCommits$Transaction;)Z" } : Jvm.MethodName)) ∈ wc_tb := List.mem_of_getElem? (i := 189) rfl
theorem tw_190 : (Jvm.Cond.static ({ cls := "WaitedCommits", name := "canPushAside", desc := "(LWaitedCommits$Transaction;LWaitedCommits$Transaction;)Z" } : Jvm.MethodName)) ∈ wc_tb := List.mem_of_getElem? (i := 190) rfl
theorem tw_191 : (Jvm.Cond.code ({ cls := "WaitedCommits", name := "canPushAside", desc := "(LWaitedCommits$Transaction;LWaitedCommits$Transaction;)Z" } : Jvm.MethodName) prog_1_method_35_code (2 : Nat) (Option.some Jvm.ClassFile.FieldType.boolean)) ∈ wc_tb := List.mem_of_getElem? (i := 191) rfl
theorem tw_192 : (Jvm.Cond.methodLinkNest "WaitedCommits" (131 : Nat) ({ cls := "WaitedCommits$Transaction", name := "giveUp", desc := "()V" } : Jvm.MethodName) "WaitedCommits") ∈ wc_tb := List.mem_of_getElem? (i := 192) rfl
theorem tw_193 : (Jvm.Cond.instanceMethod ({ cls := "WaitedCommits$Transaction", name := "giveUp", desc := "()V" } : Jvm.MethodName)) ∈ wc_tb := List.mem_of_getElem? (i := 193) rfl
theorem tw_194 : (Jvm.Cond.code ({ cls := "WaitedCommits$Transaction", name := "giveUp", desc := "()V" } : Jvm.MethodName) prog_5_method_5_code (2 : Nat) (Option.none : Option Jvm.ClassFile.FieldType)) ∈ wc_tb := List.mem_of_getElem? (i := 194) rfl
theorem tw_195 : (Jvm.Cond.methodLink "WaitedCommits$Transaction" (47 : Nat) ({ cls := "WaitedCommits$Transaction", name := "unlockAt", desc := "(I)V" } : Jvm.MethodName)) ∈ wc_tb := List.mem_of_getElem? (i := 195) rfl
theorem tw_196 : (Jvm.Cond.instanceMethod ({ cls := "WaitedCommits$Transaction", name := "unlockAt", desc := "(I)V" } : Jvm.MethodName)) ∈ wc_tb := List.mem_of_getElem? (i := 196) rfl
theorem tw_197 : (Jvm.Cond.code ({ cls := "WaitedCommits$Transaction", name := "unlockAt", desc := "(I)V" } : Jvm.MethodName) prog_5_method_4_code (3 : Nat) (Option.none : Option Jvm.ClassFile.FieldType)) ∈ wc_tb := List.mem_of_getElem? (i := 197) rfl
theorem tw_198 : (Jvm.Cond.constantLong "WaitedCommits" (109 : Nat) (1099511627776 : Int64)) ∈ wc_tb := List.mem_of_getElem? (i := 198) rfl
theorem tw_199 : (Jvm.Cond.methodLink "WaitedCommitsLaw" (46 : Nat) ({ cls := "WaitedCommits", name := "write", desc := "(III)Z" } : Jvm.MethodName)) ∈ wc_tb := List.mem_of_getElem? (i := 199) rfl
theorem tw_200 : (Jvm.Cond.instanceMethod ({ cls := "WaitedCommits", name := "write", desc := "(III)Z" } : Jvm.MethodName)) ∈ wc_tb := List.mem_of_getElem? (i := 200) rfl
theorem tw_201 : (Jvm.Cond.selects "WaitedCommits" ({ cls := "WaitedCommits", name := "write", desc := "(III)Z" } : Jvm.MethodName) ({ cls := "WaitedCommits", name := "write", desc := "(III)Z" } : Jvm.MethodName)) ∈ wc_tb := List.mem_of_getElem? (i := 201) rfl
theorem tw_202 : (Jvm.Cond.code ({ cls := "WaitedCommits", name := "write", desc := "(III)Z" } : Jvm.MethodName) prog_1_method_7_code (4 : Nat) (Option.some Jvm.ClassFile.FieldType.boolean)) ∈ wc_tb := List.mem_of_getElem? (i := 202) rfl
theorem tw_203 : (Jvm.Cond.methodLink "WaitedCommitsLaw" (50 : Nat) ({ cls := "WaitedCommits", name := "commit", desc := "(I)Z" } : Jvm.MethodName)) ∈ wc_tb := List.mem_of_getElem? (i := 203) rfl
theorem tw_204 : (Jvm.Cond.instanceMethod ({ cls := "WaitedCommits", name := "commit", desc := "(I)Z" } : Jvm.MethodName)) ∈ wc_tb := List.mem_of_getElem? (i := 204) rfl
theorem tw_205 : (Jvm.Cond.selects "WaitedCommits" ({ cls := "WaitedCommits", name := "commit", desc := "(I)Z" } : Jvm.MethodName) ({ cls := "WaitedCommits", name := "commit", desc := "(I)Z" } : Jvm.MethodName)) ∈ wc_tb := List.mem_of_getElem? (i := 205) rfl
theorem tw_206 : (Jvm.Cond.code ({ cls := "WaitedCommits", name := "commit", desc := "(I)Z" } : Jvm.MethodName) prog_1_method_8_code (3 : Nat) (Option.some Jvm.ClassFile.FieldType.boolean)) ∈ wc_tb := List.mem_of_getElem? (i := 206) rfl
theorem tw_207 : (Jvm.Cond.methodLink "WaitedCommits" (128 : Nat) ({ cls := "WaitedCommits", name := "prepare", desc := "(I)V" } : Jvm.MethodName)) ∈ wc_tb := List.mem_of_getElem? (i := 207) rfl
theorem tw_208 : (Jvm.Cond.instanceMethod ({ cls := "WaitedCommits", name := "prepare", desc := "(I)V" } : Jvm.MethodName)) ∈ wc_tb := List.mem_of_getElem? (i := 208) rfl
theorem tw_209 : (Jvm.Cond.code ({ cls := "WaitedCommits", name := "prepare", desc := "(I)V" } : Jvm.MethodName) prog_1_method_36_code (3 : Nat) (Option.none : Option Jvm.ClassFile.FieldType)) ∈ wc_tb := List.mem_of_getElem? (i := 209) rfl
theorem tw_210 : (Jvm.Cond.methodLink "WaitedCommits" (180 : Nat) ({ cls := "WaitedCommits", name := "latest", desc := "(I)I" } : Jvm.MethodName)) ∈ wc_tb := List.mem_of_getElem? (i := 210) rfl
theorem tw_211 : (Jvm.Cond.instanceMethod ({ cls := "WaitedCommits", name := "latest", desc := "(I)I" } : Jvm.MethodName)) ∈ wc_tb := List.mem_of_getElem? (i := 211) rfl
theorem tw_212 : (Jvm.Cond.code ({ cls := "WaitedCommits", name := "latest", desc := "(I)I" } : Jvm.MethodName) prog_1_method_29_code (2 : Nat) (Option.some Jvm.ClassFile.FieldType.int)) ∈ wc_tb := List.mem_of_getElem? (i := 212) rfl
theorem tw_213 : (Jvm.Cond.methodLink "WaitedCommits" (194 : Nat) ({ cls := "WaitedCommits", name := "sendToOthers", desc := "(II)I" } : Jvm.MethodName)) ∈ wc_tb := List.mem_of_getElem? (i := 213) rfl
theorem tw_214 : (Jvm.Cond.instanceMethod ({ cls := "WaitedCommits", name := "sendToOthers", desc := "(II)I" } : Jvm.MethodName)) ∈ wc_tb := List.mem_of_getElem? (i := 214) rfl
theorem tw_215 : (Jvm.Cond.code ({ cls := "WaitedCommits", name := "sendToOthers", desc := "(II)I" } : Jvm.MethodName) prog_1_method_37_code (6 : Nat) (Option.some Jvm.ClassFile.FieldType.int)) ∈ wc_tb := List.mem_of_getElem? (i := 215) rfl
theorem tw_216 : (Jvm.Cond.methodLinkNest "WaitedCommits" (204 : Nat) ({ cls := "WaitedCommits$Transaction", name := "holdsAt", desc := "(I)Z" } : Jvm.MethodName) "WaitedCommits") ∈ wc_tb := List.mem_of_getElem? (i := 216) rfl
theorem tw_217 : (Jvm.Cond.methodLink "WaitedCommits" (207 : Nat) ({ cls := "WaitedCommits", name := "send", desc := "(III)V" } : Jvm.MethodName)) ∈ wc_tb := List.mem_of_getElem? (i := 217) rfl
theorem tw_218 : (Jvm.Cond.instanceMethod ({ cls := "WaitedCommits", name := "send", desc := "(III)V" } : Jvm.MethodName)) ∈ wc_tb := List.mem_of_getElem? (i := 218) rfl
theorem tw_219 : (Jvm.Cond.code ({ cls := "WaitedCommits", name := "send", desc := "(III)V" } : Jvm.MethodName) prog_1_method_38_code (6 : Nat) (Option.none : Option Jvm.ClassFile.FieldType)) ∈ wc_tb := List.mem_of_getElem? (i := 219) rfl
theorem tw_220 : (Jvm.Cond.methodLink "WaitedCommits" (200 : Nat) ({ cls := "WaitedCommits", name := "chooseStamp", desc := "(LWaitedCommits$Transaction;)V" } : Jvm.MethodName)) ∈ wc_tb := List.mem_of_getElem? (i := 220) rfl
theorem tw_221 : (Jvm.Cond.instanceMethod ({ cls := "WaitedCommits", name := "chooseStamp", desc := "(LWaitedCommits$Transaction;)V" } : Jvm.MethodName)) ∈ wc_tb := List.mem_of_getElem? (i := 221) rfl
theorem tw_222 : (Jvm.Cond.code ({ cls := "WaitedCommits", name := "chooseStamp", desc := "(LWaitedCommits$Transaction;)V" } : Jvm.MethodName) prog_1_method_45_code (3 : Nat) (Option.none : Option Jvm.ClassFile.FieldType)) ∈ wc_tb := List.mem_of_getElem? (i := 222) rfl
theorem tw_223 : (Jvm.Cond.methodLinkNest "WaitedCommits" (254 : Nat) ({ cls := "WaitedCommits$Transaction", name := "greatestMark", desc := "()I" } : Jvm.MethodName) "WaitedCommits") ∈ wc_tb := List.mem_of_getElem? (i := 223) rfl
theorem tw_224 : (Jvm.Cond.instanceMethod ({ cls := "WaitedCommits$Transaction", name := "greatestMark", desc := "()I" } : Jvm.MethodName)) ∈ wc_tb := List.mem_of_getElem? (i := 224) rfl
theorem tw_225 : (Jvm.Cond.code ({ cls := "WaitedCommits$Transaction", name := "greatestMark", desc := "()I" } : Jvm.MethodName) prog_5_method_6_code (3 : Nat) (Option.some Jvm.ClassFile.FieldType.int)) ∈ wc_tb := List.mem_of_getElem? (i := 225) rfl
theorem tw_226 : (Jvm.Cond.methodLink "WaitedCommits$Transaction" (51 : Nat) ({ cls := "java/lang/Math", name := "max", desc := "(II)I" } : Jvm.MethodName)) ∈ wc_tb := List.mem_of_getElem? (i := 226) rfl
theorem tw_227 : (Jvm.Cond.methodLink "WaitedCommitsLaw" (54 : Nat) ({ cls := "WaitedCommits", name := "abort", desc := "(I)Z" } : Jvm.MethodName)) ∈ wc_tb := List.mem_of_getElem? (i := 227) rfl
theorem tw_228 : (Jvm.Cond.instanceMethod ({ cls := "WaitedCommits", name := "abort", desc := "(I)Z" } : Jvm.MethodName)) ∈ wc_tb := List.mem_of_getElem? (i := 228) rfl
theorem tw_229 : (Jvm.Cond.selects "WaitedCommits" ({ cls := "WaitedCommits", name := "abort", desc := "(I)Z" } : Jvm.MethodName) ({ cls := "WaitedCommits", name := "abort", desc := "(I)Z" } : Jvm.MethodName)) ∈ wc_tb := List.mem_of_getElem? (i := 229) rfl
theorem tw_230 : (Jvm.Cond.code ({ cls := "WaitedCommits", name := "abort", desc := "(I)Z" } : Jvm.MethodName) prog_1_method_9_code (2 : Nat) (Option.some Jvm.ClassFile.FieldType.boolean)) ∈ wc_tb := List.mem_of_getElem? (i := 230) rfl
theorem tw_231 : (Jvm.Cond.methodLink "WaitedCommitsLaw" (58 : Nat) ({ cls := "WaitedCommits", name := "readAt", desc := "(II)J" } : Jvm.MethodName)) ∈ wc_tb := List.mem_of_getElem? (i := 231) rfl
theorem tw_232 : (Jvm.Cond.instanceMethod ({ cls := "WaitedCommits", name := "readAt", desc := "(II)J" } : Jvm.MethodName)) ∈ wc_tb := List.mem_of_getElem? (i := 232) rfl
theorem tw_233 : (Jvm.Cond.selects "WaitedCommits" ({ cls := "WaitedCommits", name := "readAt", desc := "(II)J" } : Jvm.MethodName) ({ cls := "WaitedCommits", name := "readAt", desc := "(II)J" } : Jvm.MethodName)) ∈ wc_tb := List.mem_of_getElem? (i := 233) rfl
theorem tw_234 : (Jvm.Cond.code ({ cls := "WaitedCommits", name := "readAt", desc := "(II)J" } : Jvm.MethodName) prog_1_method_10_code (3 : Nat) (Option.some Jvm.ClassFile.FieldType.long)) ∈ wc_tb := List.mem_of_getElem? (i := 234) rfl
theorem tw_235 : (Jvm.Cond.methodLink "WaitedCommits" (138 : Nat) ({ cls := "WaitedCommits", name := "greatestReadyTime", desc := "(I)I" } : Jvm.MethodName)) ∈ wc_tb := List.mem_of_getElem? (i := 235) rfl
theorem tw_236 : (Jvm.Cond.instanceMethod ({ cls := "WaitedCommits", name := "greatestReadyTime", desc := "(I)I" } : Jvm.MethodName)) ∈ wc_tb := List.mem_of_getElem? (i := 236) rfl
theorem tw_237 : (Jvm.Cond.code ({ cls := "WaitedCommits", name := "greatestReadyTime", desc := "(I)I" } : Jvm.MethodName) prog_1_method_32_code (2 : Nat) (Option.some Jvm.ClassFile.FieldType.int)) ∈ wc_tb := List.mem_of_getElem? (i := 237) rfl
theorem tw_238 : (Jvm.Cond.methodLink "WaitedCommits" (165 : Nat) ({ cls := "WaitedCommits", name := "leastMark", desc := "(I)I" } : Jvm.MethodName)) ∈ wc_tb := List.mem_of_getElem? (i := 238) rfl
theorem tw_239 : (Jvm.Cond.instanceMethod ({ cls := "WaitedCommits", name := "leastMark", desc := "(I)I" } : Jvm.MethodName)) ∈ wc_tb := List.mem_of_getElem? (i := 239) rfl
theorem tw_240 : (Jvm.Cond.code ({ cls := "WaitedCommits", name := "leastMark", desc := "(I)I" } : Jvm.MethodName) prog_1_method_31_code (4 : Nat) (Option.some Jvm.ClassFile.FieldType.int)) ∈ wc_tb := List.mem_of_getElem? (i := 240) rfl
theorem tw_241 : (Jvm.Cond.constant "WaitedCommits" (179 : Nat) (2147483647 : Int32)) ∈ wc_tb := List.mem_of_getElem? (i := 241) rfl
theorem tw_242 : (Jvm.Cond.methodLinkNest "WaitedCommits" (141 : Nat) ({ cls := "WaitedCommits$Site", name := "raiseBound", desc := "(I)V" } : Jvm.MethodName) "WaitedCommits") ∈ wc_tb := List.mem_of_getElem? (i := 242) rfl
theorem tw_243 : (Jvm.Cond.instanceMethod ({ cls := "WaitedCommits$Site", name := "raiseBound", desc := "(I)V" } : Jvm.MethodName)) ∈ wc_tb := List.mem_of_getElem? (i := 243) rfl
theorem tw_244 : (Jvm.Cond.code ({ cls := "WaitedCommits$Site", name := "raiseBound", desc := "(I)V" } : Jvm.MethodName) prog_4_method_2_code (2 : Nat) (Option.none : Option Jvm.ClassFile.FieldType)) ∈ wc_tb := List.mem_of_getElem? (i := 244) rfl
theorem tw_245 : (Jvm.Cond.methodLink "WaitedCommits$Site" (26 : Nat) ({ cls := "java/lang/Math", name := "max", desc := "(II)I" } : Jvm.MethodName)) ∈ wc_tb := List.mem_of_getElem? (i := 245) rfl
theorem tw_246 : (Jvm.Cond.methodLinkNest "WaitedCommits" (144 : Nat) ({ cls := "WaitedCommits$Key", name := "valueAt", desc := "(I)J" } : Jvm.MethodName) "WaitedCommits") ∈ wc_tb := List.mem_of_getElem? (i := 246) rfl
theorem tw_247 : (Jvm.Cond.instanceMethod ({ cls := "WaitedCommits$Key", name := "valueAt", desc := "(I)J" } : Jvm.MethodName)) ∈ wc_tb := List.mem_of_getElem? (i := 247) rfl
theorem tw_248 : (Jvm.Cond.code ({ cls := "WaitedCommits$Key", name := "valueAt", desc := "(I)J" } : Jvm.MethodName) prog_2_method_3_code (3 : Nat) (Option.some Jvm.ClassFile.FieldType.long)) ∈ wc_tb := List.mem_of_getElem? (i := 248) rfl
theorem tw_249 : (Jvm.Cond.constantLong "WaitedCommits$Key" (28 : Nat) (2199023255552 : Int64)) ∈ wc_tb := List.mem_of_getElem? (i := 249) rfl
theorem tw_250 : (Jvm.Cond.methodLink "WaitedCommitsLaw" (62 : Nat) ({ cls := "WaitedCommits", name := "step", desc := "(I)I" } : Jvm.MethodName)) ∈ wc_tb := List.mem_of_getElem? (i := 250) rfl
theorem tw_251 : (Jvm.Cond.instanceMethod ({ cls := "WaitedCommits", name := "step", desc := "(I)I" } : Jvm.MethodName)) ∈ wc_tb := List.mem_of_getElem? (i := 251) rfl
theorem tw_252 : (Jvm.Cond.selects "WaitedCommits" ({ cls := "WaitedCommits", name := "step", desc := "(I)I" } : Jvm.MethodName) ({ cls := "WaitedCommits", name := "step", desc := "(I)I" } : Jvm.MethodName)) ∈ wc_tb := List.mem_of_getElem? (i := 252) rfl
theorem tw_253 : (Jvm.Cond.code ({ cls := "WaitedCommits", name := "step", desc := "(I)I" } : Jvm.MethodName) prog_1_method_11_code (4 : Nat) (Option.some Jvm.ClassFile.FieldType.int)) ∈ wc_tb := List.mem_of_getElem? (i := 253) rfl
theorem tw_254 : (Jvm.Cond.methodLink "WaitedCommits" (148 : Nat) ({ cls := "WaitedCommits", name := "deliverMessages", desc := "()V" } : Jvm.MethodName)) ∈ wc_tb := List.mem_of_getElem? (i := 254) rfl
theorem tw_255 : (Jvm.Cond.instanceMethod ({ cls := "WaitedCommits", name := "deliverMessages", desc := "()V" } : Jvm.MethodName)) ∈ wc_tb := List.mem_of_getElem? (i := 255) rfl
theorem tw_256 : (Jvm.Cond.code ({ cls := "WaitedCommits", name := "deliverMessages", desc := "()V" } : Jvm.MethodName) prog_1_method_39_code (3 : Nat) (Option.none : Option Jvm.ClassFile.FieldType)) ∈ wc_tb := List.mem_of_getElem? (i := 256) rfl
theorem tw_257 : (Jvm.Cond.methodLink "WaitedCommits" (223 : Nat) ({ cls := "WaitedCommits", name := "firstDue", desc := "()LWaitedCommits$Message;" } : Jvm.MethodName)) ∈ wc_tb := List.mem_of_getElem? (i := 257) rfl
theorem tw_258 : (Jvm.Cond.instanceMethod ({ cls := "WaitedCommits", name := "firstDue", desc := "()LWaitedCommits$Message;" } : Jvm.MethodName)) ∈ wc_tb := List.mem_of_getElem? (i := 258) rfl
theorem tw_259 : (Jvm.Cond.code ({ cls := "WaitedCommits", name := "firstDue", desc := "()LWaitedCommits$Message;" } : Jvm.MethodName) prog_1_method_40_code (3 : Nat) (Option.some (Jvm.ClassFile.FieldType.object "WaitedCommits$Message"))) ∈ wc_tb := List.mem_of_getElem? (i := 259) rfl
theorem tw_260 : (Jvm.Cond.methodLink "WaitedCommits" (231 : Nat) ({ cls := "WaitedCommits", name := "isDue", desc := "(LWaitedCommits$Message;)Z" } : Jvm.MethodName)) ∈ wc_tb := List.mem_of_getElem? (i := 260) rfl
theorem tw_261 : (Jvm.Cond.instanceMethod ({ cls := "WaitedCommits", name := "isDue", desc := "(LWaitedCommits$Message;)Z" } : Jvm.MethodName)) ∈ wc_tb := List.mem_of_getElem? (i := 261) rfl
theorem tw_262 : (Jvm.Cond.code ({ cls := "WaitedCommits", name := "isDue", desc := "(LWaitedCommits$Message;)Z" } : Jvm.MethodName) prog_1_method_41_code (2 : Nat) (Option.some Jvm.ClassFile.FieldType.boolean)) ∈ wc_tb := List.mem_of_getElem? (i := 262) rfl
theorem tw_263 : (Jvm.Cond.methodLinkNest "WaitedCommits" (235 : Nat) ({ cls := "WaitedCommits$Message", name := "comesBefore", desc := "(LWaitedCommits$Message;)Z" } : Jvm.MethodName) "WaitedCommits") ∈ wc_tb := List.mem_of_getElem? (i := 263) rfl
theorem tw_264 : (Jvm.Cond.instanceMethod ({ cls := "WaitedCommits$Message", name := "comesBefore", desc := "(LWaitedCommits$Message;)Z" } : Jvm.MethodName)) ∈ wc_tb := List.mem_of_getElem? (i := 264) rfl
theorem tw_265 : (Jvm.Cond.code ({ cls := "WaitedCommits$Message", name := "comesBefore", desc := "(LWaitedCommits$Message;)Z" } : Jvm.MethodName) prog_3_method_2_code (2 : Nat) (Option.some Jvm.ClassFile.FieldType.boolean)) ∈ wc_tb := List.mem_of_getElem? (i := 265) rfl
theorem tw_266 : (Jvm.Cond.methodLink "WaitedCommits" (227 : Nat) ({ cls := "WaitedCommits", name := "dealWith", desc := "(LWaitedCommits$Message;)V" } : Jvm.MethodName)) ∈ wc_tb := List.mem_of_getElem? (i := 266) rfl
theorem tw_267 : (Jvm.Cond.instanceMethod ({ cls := "WaitedCommits", name := "dealWith", desc := "(LWaitedCommits$Message;)V" } : Jvm.MethodName)) ∈ wc_tb := List.mem_of_getElem? (i := 267) rfl
theorem tw_268 : (Jvm.Cond.code ({ cls := "WaitedCommits", name := "dealWith", desc := "(LWaitedCommits$Message;)V" } : Jvm.MethodName) prog_1_method_42_code (3 : Nat) (Option.none : Option Jvm.ClassFile.FieldType)) ∈ wc_tb := List.mem_of_getElem? (i := 268) rfl
theorem tw_269 : (Jvm.Cond.methodLink "WaitedCommits" (244 : Nat) ({ cls := "WaitedCommits", name := "takePrepare", desc := "(II)V" } : Jvm.MethodName)) ∈ wc_tb := List.mem_of_getElem? (i := 269) rfl
theorem tw_270 : (Jvm.Cond.instanceMethod ({ cls := "WaitedCommits", name := "takePrepare", desc := "(II)V" } : Jvm.MethodName)) ∈ wc_tb := List.mem_of_getElem? (i := 270) rfl
theorem tw_271 : (Jvm.Cond.code ({ cls := "WaitedCommits", name := "takePrepare", desc := "(II)V" } : Jvm.MethodName) prog_1_method_43_code (4 : Nat) (Option.none : Option Jvm.ClassFile.FieldType)) ∈ wc_tb := List.mem_of_getElem? (i := 271) rfl
theorem tw_272 : (Jvm.Cond.methodLink "WaitedCommits" (247 : Nat) ({ cls := "WaitedCommits", name := "takePrepared", desc := "(LWaitedCommits$Transaction;)V" } : Jvm.MethodName)) ∈ wc_tb := List.mem_of_getElem? (i := 272) rfl
theorem tw_273 : (Jvm.Cond.instanceMethod ({ cls := "WaitedCommits", name := "takePrepared", desc := "(LWaitedCommits$Transaction;)V" } : Jvm.MethodName)) ∈ wc_tb := List.mem_of_getElem? (i := 273) rfl
theorem tw_274 : (Jvm.Cond.code ({ cls := "WaitedCommits", name := "takePrepared", desc := "(LWaitedCommits$Transaction;)V" } : Jvm.MethodName) prog_1_method_44_code (2 : Nat) (Option.none : Option Jvm.ClassFile.FieldType)) ∈ wc_tb := List.mem_of_getElem? (i := 274) rfl
theorem tw_275 : (Jvm.Cond.methodLink "WaitedCommits" (250 : Nat) ({ cls := "WaitedCommits", name := "finishAt", desc := "(LWaitedCommits$Transaction;I)V" } : Jvm.MethodName)) ∈ wc_tb := List.mem_of_getElem? (i := 275) rfl
theorem tw_276 : (Jvm.Cond.instanceMethod ({ cls := "WaitedCommits", name := "finishAt", desc := "(LWaitedCommits$Transaction;I)V" } : Jvm.MethodName)) ∈ wc_tb := List.mem_of_getElem? (i := 276) rfl
theorem tw_277 : (Jvm.Cond.code ({ cls := "WaitedCommits", name := "finishAt", desc := "(LWaitedCommits$Transaction;I)V" } : Jvm.MethodName) prog_1_method_49_code (4 : Nat) (Option.none : Option Jvm.ClassFile.FieldType)) ∈ wc_tb := List.mem_of_getElem? (i := 277) rfl
theorem tw_278 : (Jvm.Cond.methodLinkNest "WaitedCommits" (266 : Nat) ({ cls := "WaitedCommits$Key", name := "add", desc := "(II)V" } : Jvm.MethodName) "WaitedCommits") ∈ wc_tb := List.mem_of_getElem? (i := 278) rfl
theorem tw_279 : (Jvm.Cond.instanceMethod ({ cls := "WaitedCommits$Key", name := "add", desc := "(II)V" } : Jvm.MethodName)) ∈ wc_tb := List.mem_of_getElem? (i := 279) rfl
theorem tw_280 : (Jvm.Cond.code ({ cls := "WaitedCommits$Key", name := "add", desc := "(II)V" } : Jvm.MethodName) prog_2_method_2_code (4 : Nat) (Option.none : Option Jvm.ClassFile.FieldType)) ∈ wc_tb := List.mem_of_getElem? (i := 280) rfl
theorem tw_281 : (Jvm.Cond.methodLink "WaitedCommits$Key" (22 : Nat) ({ cls := "java/lang/Math", name := "min", desc := "(II)I" } : Jvm.MethodName)) ∈ wc_tb := List.mem_of_getElem? (i := 281) rfl
theorem tw_282 : (Jvm.Cond.methodLinkNest "WaitedCommits" (269 : Nat) ({ cls := "WaitedCommits$Transaction", name := "unlockAt", desc := "(I)V" } : Jvm.MethodName) "WaitedCommits") ∈ wc_tb := List.mem_of_getElem? (i := 282) rfl
theorem tw_283 : (Jvm.Cond.methodLink "WaitedCommits" (151 : Nat) ({ cls := "WaitedCommits", name := "endWaiting", desc := "()I" } : Jvm.MethodName)) ∈ wc_tb := List.mem_of_getElem? (i := 283) rfl
theorem tw_284 : (Jvm.Cond.instanceMethod ({ cls := "WaitedCommits", name := "endWaiting", desc := "()I" } : Jvm.MethodName)) ∈ wc_tb := List.mem_of_getElem? (i := 284) rfl
theorem tw_285 : (Jvm.Cond.code ({ cls := "WaitedCommits", name := "endWaiting", desc := "()I" } : Jvm.MethodName) prog_1_method_46_code (3 : Nat) (Option.some Jvm.ClassFile.FieldType.int)) ∈ wc_tb := List.mem_of_getElem? (i := 285) rfl
theorem tw_286 : (Jvm.Cond.methodLink "WaitedCommits" (257 : Nat) ({ cls := "WaitedCommits", name := "mayEnd", desc := "(LWaitedCommits$Transaction;)Z" } : Jvm.MethodName)) ∈ wc_tb := List.mem_of_getElem? (i := 286) rfl
theorem tw_287 : (Jvm.Cond.instanceMethod ({ cls := "WaitedCommits", name := "mayEnd", desc := "(LWaitedCommits$Transaction;)Z" } : Jvm.MethodName)) ∈ wc_tb := List.mem_of_getElem? (i := 287) rfl
theorem tw_288 : (Jvm.Cond.code ({ cls := "WaitedCommits", name := "mayEnd", desc := "(LWaitedCommits$Transaction;)Z" } : Jvm.MethodName) prog_1_method_47_code (2 : Nat) (Option.some Jvm.ClassFile.FieldType.boolean)) ∈ wc_tb := List.mem_of_getElem? (i := 288) rfl
theorem tw_289 : (Jvm.Cond.methodLink "WaitedCommits" (263 : Nat) ({ cls := "WaitedCommits", name := "earliest", desc := "(I)I" } : Jvm.MethodName)) ∈ wc_tb := List.mem_of_getElem? (i := 289) rfl
theorem tw_290 : (Jvm.Cond.instanceMethod ({ cls := "WaitedCommits", name := "earliest", desc := "(I)I" } : Jvm.MethodName)) ∈ wc_tb := List.mem_of_getElem? (i := 290) rfl
theorem tw_291 : (Jvm.Cond.code ({ cls := "WaitedCommits", name := "earliest", desc := "(I)I" } : Jvm.MethodName) prog_1_method_30_code (2 : Nat) (Option.some Jvm.ClassFile.FieldType.int)) ∈ wc_tb := List.mem_of_getElem? (i := 291) rfl
theorem tw_292 : (Jvm.Cond.methodLink "WaitedCommits" (260 : Nat) ({ cls := "WaitedCommits", name := "endOne", desc := "(I)V" } : Jvm.MethodName)) ∈ wc_tb := List.mem_of_getElem? (i := 292) rfl
theorem tw_293 : (Jvm.Cond.instanceMethod ({ cls := "WaitedCommits", name := "endOne", desc := "(I)V" } : Jvm.MethodName)) ∈ wc_tb := List.mem_of_getElem? (i := 293) rfl
theorem tw_294 : (Jvm.Cond.code ({ cls := "WaitedCommits", name := "endOne", desc := "(I)V" } : Jvm.MethodName) prog_1_method_48_code (3 : Nat) (Option.none : Option Jvm.ClassFile.FieldType)) ∈ wc_tb := List.mem_of_getElem? (i := 294) rfl
theorem tw_295 : (Jvm.Cond.methodLink "WaitedCommitsLaw" (67 : Nat) ({ cls := "WaitedCommits", name := "now", desc := "()I" } : Jvm.MethodName)) ∈ wc_tb := List.mem_of_getElem? (i := 295) rfl
theorem tw_296 : (Jvm.Cond.instanceMethod ({ cls := "WaitedCommits", name := "now", desc := "()I" } : Jvm.MethodName)) ∈ wc_tb := List.mem_of_getElem? (i := 296) rfl
theorem tw_297 : (Jvm.Cond.selects "WaitedCommits" ({ cls := "WaitedCommits", name := "now", desc := "()I" } : Jvm.MethodName) ({ cls := "WaitedCommits", name := "now", desc := "()I" } : Jvm.MethodName)) ∈ wc_tb := List.mem_of_getElem? (i := 297) rfl
theorem tw_298 : (Jvm.Cond.code ({ cls := "WaitedCommits", name := "now", desc := "()I" } : Jvm.MethodName) prog_1_method_12_code (1 : Nat) (Option.some Jvm.ClassFile.FieldType.int)) ∈ wc_tb := List.mem_of_getElem? (i := 298) rfl
theorem tw_299 : (Jvm.Cond.methodLink "WaitedCommitsLaw" (72 : Nat) ({ cls := "WaitedCommits", name := "state", desc := "(I)I" } : Jvm.MethodName)) ∈ wc_tb := List.mem_of_getElem? (i := 299) rfl
theorem tw_300 : (Jvm.Cond.instanceMethod ({ cls := "WaitedCommits", name := "state", desc := "(I)I" } : Jvm.MethodName)) ∈ wc_tb := List.mem_of_getElem? (i := 300) rfl
theorem tw_301 : (Jvm.Cond.selects "WaitedCommits" ({ cls := "WaitedCommits", name := "state", desc := "(I)I" } : Jvm.MethodName) ({ cls := "WaitedCommits", name := "state", desc := "(I)I" } : Jvm.MethodName)) ∈ wc_tb := List.mem_of_getElem? (i := 301) rfl
theorem tw_302 : (Jvm.Cond.code ({ cls := "WaitedCommits", name := "state", desc := "(I)I" } : Jvm.MethodName) prog_1_method_13_code (2 : Nat) (Option.some Jvm.ClassFile.FieldType.int)) ∈ wc_tb := List.mem_of_getElem? (i := 302) rfl
theorem tw_303 : (Jvm.Cond.methodLink "WaitedCommitsLaw" (76 : Nat) ({ cls := "WaitedCommits", name := "stamp", desc := "(I)I" } : Jvm.MethodName)) ∈ wc_tb := List.mem_of_getElem? (i := 303) rfl
theorem tw_304 : (Jvm.Cond.instanceMethod ({ cls := "WaitedCommits", name := "stamp", desc := "(I)I" } : Jvm.MethodName)) ∈ wc_tb := List.mem_of_getElem? (i := 304) rfl
theorem tw_305 : (Jvm.Cond.selects "WaitedCommits" ({ cls := "WaitedCommits", name := "stamp", desc := "(I)I" } : Jvm.MethodName) ({ cls := "WaitedCommits", name := "stamp", desc := "(I)I" } : Jvm.MethodName)) ∈ wc_tb := List.mem_of_getElem? (i := 305) rfl
theorem tw_306 : (Jvm.Cond.code ({ cls := "WaitedCommits", name := "stamp", desc := "(I)I" } : Jvm.MethodName) prog_1_method_14_code (3 : Nat) (Option.some Jvm.ClassFile.FieldType.int)) ∈ wc_tb := List.mem_of_getElem? (i := 306) rfl
theorem tw_307 : (Jvm.Cond.methodLink "WaitedCommits" (154 : Nat) ({ cls := "WaitedCommits", name := "state", desc := "(I)I" } : Jvm.MethodName)) ∈ wc_tb := List.mem_of_getElem? (i := 307) rfl
theorem tw_308 : (Jvm.Cond.methodLink "WaitedCommitsLaw" (80 : Nat) ({ cls := "WaitedCommits", name := "end", desc := "(I)I" } : Jvm.MethodName)) ∈ wc_tb := List.mem_of_getElem? (i := 308) rfl
theorem tw_309 : (Jvm.Cond.instanceMethod ({ cls := "WaitedCommits", name := "end", desc := "(I)I" } : Jvm.MethodName)) ∈ wc_tb := List.mem_of_getElem? (i := 309) rfl
theorem tw_310 : (Jvm.Cond.selects "WaitedCommits" ({ cls := "WaitedCommits", name := "end", desc := "(I)I" } : Jvm.MethodName) ({ cls := "WaitedCommits", name := "end", desc := "(I)I" } : Jvm.MethodName)) ∈ wc_tb := List.mem_of_getElem? (i := 310) rfl
theorem tw_311 : (Jvm.Cond.code ({ cls := "WaitedCommits", name := "end", desc := "(I)I" } : Jvm.MethodName) prog_1_method_15_code (2 : Nat) (Option.some Jvm.ClassFile.FieldType.int)) ∈ wc_tb := List.mem_of_getElem? (i := 311) rfl
theorem tw_312 : (Jvm.Cond.methodLink "WaitedCommitsLaw" (84 : Nat) ({ cls := "WaitedCommits", name := "marks", desc := "(I)I" } : Jvm.MethodName)) ∈ wc_tb := List.mem_of_getElem? (i := 312) rfl
theorem tw_313 : (Jvm.Cond.instanceMethod ({ cls := "WaitedCommits", name := "marks", desc := "(I)I" } : Jvm.MethodName)) ∈ wc_tb := List.mem_of_getElem? (i := 313) rfl
theorem tw_314 : (Jvm.Cond.selects "WaitedCommits" ({ cls := "WaitedCommits", name := "marks", desc := "(I)I" } : Jvm.MethodName) ({ cls := "WaitedCommits", name := "marks", desc := "(I)I" } : Jvm.MethodName)) ∈ wc_tb := List.mem_of_getElem? (i := 314) rfl
theorem tw_315 : (Jvm.Cond.code ({ cls := "WaitedCommits", name := "marks", desc := "(I)I" } : Jvm.MethodName) prog_1_method_16_code (4 : Nat) (Option.some Jvm.ClassFile.FieldType.int)) ∈ wc_tb := List.mem_of_getElem? (i := 315) rfl
theorem tw_316 : (Jvm.Cond.methodLink "WaitedCommitsLaw" (88 : Nat) ({ cls := "WaitedCommits", name := "safe", desc := "(I)I" } : Jvm.MethodName)) ∈ wc_tb := List.mem_of_getElem? (i := 316) rfl
theorem tw_317 : (Jvm.Cond.instanceMethod ({ cls := "WaitedCommits", name := "safe", desc := "(I)I" } : Jvm.MethodName)) ∈ wc_tb := List.mem_of_getElem? (i := 317) rfl
theorem tw_318 : (Jvm.Cond.selects "WaitedCommits" ({ cls := "WaitedCommits", name := "safe", desc := "(I)I" } : Jvm.MethodName) ({ cls := "WaitedCommits", name := "safe", desc := "(I)I" } : Jvm.MethodName)) ∈ wc_tb := List.mem_of_getElem? (i := 318) rfl
theorem tw_319 : (Jvm.Cond.code ({ cls := "WaitedCommits", name := "safe", desc := "(I)I" } : Jvm.MethodName) prog_1_method_17_code (2 : Nat) (Option.some Jvm.ClassFile.FieldType.int)) ∈ wc_tb := List.mem_of_getElem? (i := 319) rfl
theorem tw_320 : (Jvm.Cond.methodLink "WaitedCommitsLaw" (92 : Nat) ({ cls := "WaitedCommits", name := "bound", desc := "(I)I" } : Jvm.MethodName)) ∈ wc_tb := List.mem_of_getElem? (i := 320) rfl
theorem tw_321 : (Jvm.Cond.instanceMethod ({ cls := "WaitedCommits", name := "bound", desc := "(I)I" } : Jvm.MethodName)) ∈ wc_tb := List.mem_of_getElem? (i := 321) rfl
theorem tw_322 : (Jvm.Cond.selects "WaitedCommits" ({ cls := "WaitedCommits", name := "bound", desc := "(I)I" } : Jvm.MethodName) ({ cls := "WaitedCommits", name := "bound", desc := "(I)I" } : Jvm.MethodName)) ∈ wc_tb := List.mem_of_getElem? (i := 322) rfl
theorem tw_323 : (Jvm.Cond.code ({ cls := "WaitedCommits", name := "bound", desc := "(I)I" } : Jvm.MethodName) prog_1_method_18_code (2 : Nat) (Option.some Jvm.ClassFile.FieldType.int)) ∈ wc_tb := List.mem_of_getElem? (i := 323) rfl
theorem tw_324 : (Jvm.Cond.methodLink "WaitedCommitsLaw" (96 : Nat) ({ cls := "WaitedCommits", name := "holders", desc := "(I)I" } : Jvm.MethodName)) ∈ wc_tb := List.mem_of_getElem? (i := 324) rfl
theorem tw_325 : (Jvm.Cond.instanceMethod ({ cls := "WaitedCommits", name := "holders", desc := "(I)I" } : Jvm.MethodName)) ∈ wc_tb := List.mem_of_getElem? (i := 325) rfl
theorem tw_326 : (Jvm.Cond.selects "WaitedCommits" ({ cls := "WaitedCommits", name := "holders", desc := "(I)I" } : Jvm.MethodName) ({ cls := "WaitedCommits", name := "holders", desc := "(I)I" } : Jvm.MethodName)) ∈ wc_tb := List.mem_of_getElem? (i := 326) rfl
theorem tw_327 : (Jvm.Cond.code ({ cls := "WaitedCommits", name := "holders", desc := "(I)I" } : Jvm.MethodName) prog_1_method_19_code (4 : Nat) (Option.some Jvm.ClassFile.FieldType.int)) ∈ wc_tb := List.mem_of_getElem? (i := 327) rfl
theorem tw_328 : (Jvm.Cond.methodLink "WaitedCommitsLaw" (100 : Nat) ({ cls := "WaitedCommits", name := "version", desc := "(II)I" } : Jvm.MethodName)) ∈ wc_tb := List.mem_of_getElem? (i := 328) rfl
theorem tw_329 : (Jvm.Cond.instanceMethod ({ cls := "WaitedCommits", name := "version", desc := "(II)I" } : Jvm.MethodName)) ∈ wc_tb := List.mem_of_getElem? (i := 329) rfl
theorem tw_330 : (Jvm.Cond.selects "WaitedCommits" ({ cls := "WaitedCommits", name := "version", desc := "(II)I" } : Jvm.MethodName) ({ cls := "WaitedCommits", name := "version", desc := "(II)I" } : Jvm.MethodName)) ∈ wc_tb := List.mem_of_getElem? (i := 330) rfl
theorem tw_331 : (Jvm.Cond.code ({ cls := "WaitedCommits", name := "version", desc := "(II)I" } : Jvm.MethodName) prog_1_method_20_code (3 : Nat) (Option.some Jvm.ClassFile.FieldType.int)) ∈ wc_tb := List.mem_of_getElem? (i := 331) rfl
theorem tw_332 : (Jvm.Cond.methodLink "WaitedCommitsLaw" (105 : Nat) ({ cls := "WaitedCommits", name := "messages", desc := "()I" } : Jvm.MethodName)) ∈ wc_tb := List.mem_of_getElem? (i := 332) rfl
theorem tw_333 : (Jvm.Cond.instanceMethod ({ cls := "WaitedCommits", name := "messages", desc := "()I" } : Jvm.MethodName)) ∈ wc_tb := List.mem_of_getElem? (i := 333) rfl
theorem tw_334 : (Jvm.Cond.selects "WaitedCommits" ({ cls := "WaitedCommits", name := "messages", desc := "()I" } : Jvm.MethodName) ({ cls := "WaitedCommits", name := "messages", desc := "()I" } : Jvm.MethodName)) ∈ wc_tb := List.mem_of_getElem? (i := 334) rfl
theorem tw_335 : (Jvm.Cond.code ({ cls := "WaitedCommits", name := "messages", desc := "()I" } : Jvm.MethodName) prog_1_method_21_code (1 : Nat) (Option.some Jvm.ClassFile.FieldType.int)) ∈ wc_tb := List.mem_of_getElem? (i := 335) rfl
theorem tw_336 : (Jvm.Cond.methodLink "WaitedCommitsLaw" (9 : Nat) ({ cls := "WaitedCommitsLaw", name := "cell", desc := "([II)I" } : Jvm.MethodName)) ∈ wc_tb := List.mem_of_getElem? (i := 336) rfl
theorem tw_337 : (Jvm.Cond.static ({ cls := "WaitedCommitsLaw", name := "cell", desc := "([II)I" } : Jvm.MethodName)) ∈ wc_tb := List.mem_of_getElem? (i := 337) rfl
theorem tw_338 : (Jvm.Cond.code ({ cls := "WaitedCommitsLaw", name := "cell", desc := "([II)I" } : Jvm.MethodName) method_2_code (2 : Nat) (Option.some Jvm.ClassFile.FieldType.int)) ∈ wc_tb := List.mem_of_getElem? (i := 338) rfl
theorem tw_339 : (Jvm.Cond.classLink "WaitedCommitsLaw" (18 : Nat) "WaitedCommitsModel") ∈ wc_tb := List.mem_of_getElem? (i := 339) rfl
theorem tw_340 : (Jvm.Cond.instantiable "WaitedCommitsModel" (25 : Nat)) ∈ wc_tb := List.mem_of_getElem? (i := 340) rfl
theorem tw_341 : (Jvm.Cond.methodLink "WaitedCommitsLaw" (20 : Nat) ({ cls := "WaitedCommitsModel", name := "<init>", desc := "(I)V" } : Jvm.MethodName)) ∈ wc_tb := List.mem_of_getElem? (i := 341) rfl
theorem tw_342 : (Jvm.Cond.instanceMethod ({ cls := "WaitedCommitsModel", name := "<init>", desc := "(I)V" } : Jvm.MethodName)) ∈ wc_tb := List.mem_of_getElem? (i := 342) rfl
theorem tw_343 : (Jvm.Cond.code ({ cls := "WaitedCommitsModel", name := "<init>", desc := "(I)V" } : Jvm.MethodName) prog_7_method_1_code (3 : Nat) (Option.none : Option Jvm.ClassFile.FieldType)) ∈ wc_tb := List.mem_of_getElem? (i := 343) rfl
theorem tw_344 : (Jvm.Cond.methodLink "WaitedCommitsModel" (1 : Nat) ({ cls := "java/lang/Object", name := "<init>", desc := "()V" } : Jvm.MethodName)) ∈ wc_tb := List.mem_of_getElem? (i := 344) rfl
theorem tw_345 : (Jvm.Cond.fieldLink "WaitedCommitsModel" (71 : Nat) "WaitedCommitsModel" "e" "I") ∈ wc_tb := List.mem_of_getElem? (i := 345) rfl
theorem tw_346 : (Jvm.Cond.fieldLink "WaitedCommitsModel" (114 : Nat) "WaitedCommitsModel" "now" "I") ∈ wc_tb := List.mem_of_getElem? (i := 346) rfl
theorem tw_347 : (Jvm.Cond.fieldLink "WaitedCommitsModel" (7 : Nat) "WaitedCommitsModel" "early" "[I") ∈ wc_tb := List.mem_of_getElem? (i := 347) rfl
theorem tw_348 : (Jvm.Cond.fieldLink "WaitedCommitsModel" (13 : Nat) "WaitedCommitsModel" "late" "[I") ∈ wc_tb := List.mem_of_getElem? (i := 348) rfl
theorem tw_349 : (Jvm.Cond.fieldLink "WaitedCommitsModel" (16 : Nat) "WaitedCommitsModel" "slow" "[I") ∈ wc_tb := List.mem_of_getElem? (i := 349) rfl
theorem tw_350 : (Jvm.Cond.fieldLink "WaitedCommitsModel" (19 : Nat) "WaitedCommitsModel" "down" "[Z") ∈ wc_tb := List.mem_of_getElem? (i := 350) rfl
theorem tw_351 : (Jvm.Cond.fieldLink "WaitedCommitsModel" (23 : Nat) "WaitedCommitsModel" "bound" "[I") ∈ wc_tb := List.mem_of_getElem? (i := 351) rfl
theorem tw_352 : (Jvm.Cond.fieldLink "WaitedCommitsModel" (138 : Nat) "WaitedCommitsModel" "versions" "I") ∈ wc_tb := List.mem_of_getElem? (i := 352) rfl
theorem tw_353 : (Jvm.Cond.fieldLink "WaitedCommitsModel" (26 : Nat) "WaitedCommitsModel" "versionKey" "[I") ∈ wc_tb := List.mem_of_getElem? (i := 353) rfl
theorem tw_354 : (Jvm.Cond.fieldLink "WaitedCommitsModel" (29 : Nat) "WaitedCommitsModel" "versionStamp" "[I") ∈ wc_tb := List.mem_of_getElem? (i := 354) rfl
theorem tw_355 : (Jvm.Cond.fieldLink "WaitedCommitsModel" (32 : Nat) "WaitedCommitsModel" "versionValue" "[I") ∈ wc_tb := List.mem_of_getElem? (i := 355) rfl
theorem tw_356 : (Jvm.Cond.fieldLink "WaitedCommitsModel" (90 : Nat) "WaitedCommitsModel" "begun" "I") ∈ wc_tb := List.mem_of_getElem? (i := 356) rfl
theorem tw_357 : (Jvm.Cond.fieldLink "WaitedCommitsModel" (35 : Nat) "WaitedCommitsModel" "state" "[I") ∈ wc_tb := List.mem_of_getElem? (i := 357) rfl
theorem tw_358 : (Jvm.Cond.fieldLink "WaitedCommitsModel" (38 : Nat) "WaitedCommitsModel" "age" "[I") ∈ wc_tb := List.mem_of_getElem? (i := 358) rfl
theorem tw_359 : (Jvm.Cond.fieldLink "WaitedCommitsModel" (41 : Nat) "WaitedCommitsModel" "stamp" "[I") ∈ wc_tb := List.mem_of_getElem? (i := 359) rfl
theorem tw_360 : (Jvm.Cond.fieldLink "WaitedCommitsModel" (44 : Nat) "WaitedCommitsModel" "floor" "[I") ∈ wc_tb := List.mem_of_getElem? (i := 360) rfl
theorem tw_361 : (Jvm.Cond.fieldLink "WaitedCommitsModel" (47 : Nat) "WaitedCommitsModel" "ended" "[I") ∈ wc_tb := List.mem_of_getElem? (i := 361) rfl
theorem tw_362 : (Jvm.Cond.fieldLink "WaitedCommitsModel" (50 : Nat) "WaitedCommitsModel" "lock" "[I") ∈ wc_tb := List.mem_of_getElem? (i := 362) rfl
theorem tw_363 : (Jvm.Cond.fieldLink "WaitedCommitsModel" (53 : Nat) "WaitedCommitsModel" "wrote" "[Z") ∈ wc_tb := List.mem_of_getElem? (i := 363) rfl
theorem tw_364 : (Jvm.Cond.fieldLink "WaitedCommitsModel" (56 : Nat) "WaitedCommitsModel" "value" "[I") ∈ wc_tb := List.mem_of_getElem? (i := 364) rfl
theorem tw_365 : (Jvm.Cond.fieldLink "WaitedCommitsModel" (59 : Nat) "WaitedCommitsModel" "marked" "[Z") ∈ wc_tb := List.mem_of_getElem? (i := 365) rfl
theorem tw_366 : (Jvm.Cond.fieldLink "WaitedCommitsModel" (62 : Nat) "WaitedCommitsModel" "mark" "[I") ∈ wc_tb := List.mem_of_getElem? (i := 366) rfl
theorem tw_367 : (Jvm.Cond.fieldLink "WaitedCommitsModel" (117 : Nat) "WaitedCommitsModel" "sent" "I") ∈ wc_tb := List.mem_of_getElem? (i := 367) rfl
theorem tw_368 : (Jvm.Cond.fieldLink "WaitedCommitsModel" (65 : Nat) "WaitedCommitsModel" "arrives" "[I") ∈ wc_tb := List.mem_of_getElem? (i := 368) rfl
theorem tw_369 : (Jvm.Cond.fieldLink "WaitedCommitsModel" (68 : Nat) "WaitedCommitsModel" "number" "[I") ∈ wc_tb := List.mem_of_getElem? (i := 369) rfl
theorem tw_370 : (Jvm.Cond.lays "WaitedCommitsModel" "WaitedCommitsModel" "e" "I") ∈ wc_tb := List.mem_of_getElem? (i := 370) rfl
theorem tw_371 : (Jvm.Cond.lays "WaitedCommitsModel" "WaitedCommitsModel" "now" "I") ∈ wc_tb := List.mem_of_getElem? (i := 371) rfl
theorem tw_372 : (Jvm.Cond.lays "WaitedCommitsModel" "WaitedCommitsModel" "early" "[I") ∈ wc_tb := List.mem_of_getElem? (i := 372) rfl
theorem tw_373 : (Jvm.Cond.lays "WaitedCommitsModel" "WaitedCommitsModel" "late" "[I") ∈ wc_tb := List.mem_of_getElem? (i := 373) rfl
theorem tw_374 : (Jvm.Cond.lays "WaitedCommitsModel" "WaitedCommitsModel" "slow" "[I") ∈ wc_tb := List.mem_of_getElem? (i := 374) rfl
theorem tw_375 : (Jvm.Cond.lays "WaitedCommitsModel" "WaitedCommitsModel" "down" "[Z") ∈ wc_tb := List.mem_of_getElem? (i := 375) rfl
theorem tw_376 : (Jvm.Cond.lays "WaitedCommitsModel" "WaitedCommitsModel" "bound" "[I") ∈ wc_tb := List.mem_of_getElem? (i := 376) rfl
theorem tw_377 : (Jvm.Cond.lays "WaitedCommitsModel" "WaitedCommitsModel" "versions" "I") ∈ wc_tb := List.mem_of_getElem? (i := 377) rfl
theorem tw_378 : (Jvm.Cond.lays "WaitedCommitsModel" "WaitedCommitsModel" "versionKey" "[I") ∈ wc_tb := List.mem_of_getElem? (i := 378) rfl
theorem tw_379 : (Jvm.Cond.lays "WaitedCommitsModel" "WaitedCommitsModel" "versionStamp" "[I") ∈ wc_tb := List.mem_of_getElem? (i := 379) rfl
theorem tw_380 : (Jvm.Cond.lays "WaitedCommitsModel" "WaitedCommitsModel" "versionValue" "[I") ∈ wc_tb := List.mem_of_getElem? (i := 380) rfl
theorem tw_381 : (Jvm.Cond.lays "WaitedCommitsModel" "WaitedCommitsModel" "begun" "I") ∈ wc_tb := List.mem_of_getElem? (i := 381) rfl
theorem tw_382 : (Jvm.Cond.lays "WaitedCommitsModel" "WaitedCommitsModel" "state" "[I") ∈ wc_tb := List.mem_of_getElem? (i := 382) rfl
theorem tw_383 : (Jvm.Cond.lays "WaitedCommitsModel" "WaitedCommitsModel" "age" "[I") ∈ wc_tb := List.mem_of_getElem? (i := 383) rfl
theorem tw_384 : (Jvm.Cond.lays "WaitedCommitsModel" "WaitedCommitsModel" "stamp" "[I") ∈ wc_tb := List.mem_of_getElem? (i := 384) rfl
theorem tw_385 : (Jvm.Cond.lays "WaitedCommitsModel" "WaitedCommitsModel" "floor" "[I") ∈ wc_tb := List.mem_of_getElem? (i := 385) rfl
theorem tw_386 : (Jvm.Cond.lays "WaitedCommitsModel" "WaitedCommitsModel" "ended" "[I") ∈ wc_tb := List.mem_of_getElem? (i := 386) rfl
theorem tw_387 : (Jvm.Cond.lays "WaitedCommitsModel" "WaitedCommitsModel" "lock" "[I") ∈ wc_tb := List.mem_of_getElem? (i := 387) rfl
theorem tw_388 : (Jvm.Cond.lays "WaitedCommitsModel" "WaitedCommitsModel" "wrote" "[Z") ∈ wc_tb := List.mem_of_getElem? (i := 388) rfl
theorem tw_389 : (Jvm.Cond.lays "WaitedCommitsModel" "WaitedCommitsModel" "value" "[I") ∈ wc_tb := List.mem_of_getElem? (i := 389) rfl
theorem tw_390 : (Jvm.Cond.lays "WaitedCommitsModel" "WaitedCommitsModel" "marked" "[Z") ∈ wc_tb := List.mem_of_getElem? (i := 390) rfl
theorem tw_391 : (Jvm.Cond.lays "WaitedCommitsModel" "WaitedCommitsModel" "mark" "[I") ∈ wc_tb := List.mem_of_getElem? (i := 391) rfl
theorem tw_392 : (Jvm.Cond.lays "WaitedCommitsModel" "WaitedCommitsModel" "sent" "I") ∈ wc_tb := List.mem_of_getElem? (i := 392) rfl
theorem tw_393 : (Jvm.Cond.lays "WaitedCommitsModel" "WaitedCommitsModel" "arrives" "[I") ∈ wc_tb := List.mem_of_getElem? (i := 393) rfl
theorem tw_394 : (Jvm.Cond.lays "WaitedCommitsModel" "WaitedCommitsModel" "number" "[I") ∈ wc_tb := List.mem_of_getElem? (i := 394) rfl
theorem tw_395 : (Jvm.Cond.methodLink "WaitedCommitsLaw" (25 : Nat) ({ cls := "WaitedCommitsModel", name := "clock", desc := "(III)Z" } : Jvm.MethodName)) ∈ wc_tb := List.mem_of_getElem? (i := 395) rfl
theorem tw_396 : (Jvm.Cond.instanceMethod ({ cls := "WaitedCommitsModel", name := "clock", desc := "(III)Z" } : Jvm.MethodName)) ∈ wc_tb := List.mem_of_getElem? (i := 396) rfl
theorem tw_397 : (Jvm.Cond.selects "WaitedCommitsModel" ({ cls := "WaitedCommitsModel", name := "clock", desc := "(III)Z" } : Jvm.MethodName) ({ cls := "WaitedCommitsModel", name := "clock", desc := "(III)Z" } : Jvm.MethodName)) ∈ wc_tb := List.mem_of_getElem? (i := 397) rfl
theorem tw_398 : (Jvm.Cond.code ({ cls := "WaitedCommitsModel", name := "clock", desc := "(III)Z" } : Jvm.MethodName) prog_7_method_3_code (4 : Nat) (Option.some Jvm.ClassFile.FieldType.boolean)) ∈ wc_tb := List.mem_of_getElem? (i := 398) rfl
theorem tw_399 : (Jvm.Cond.methodLink "WaitedCommitsModel" (75 : Nat) ({ cls := "WaitedCommitsModel", name := "in", desc := "(II)Z" } : Jvm.MethodName)) ∈ wc_tb := List.mem_of_getElem? (i := 399) rfl
theorem tw_400 : (Jvm.Cond.static ({ cls := "WaitedCommitsModel", name := "in", desc := "(II)Z" } : Jvm.MethodName)) ∈ wc_tb := List.mem_of_getElem? (i := 400) rfl
set_option maxRecDepth 10000 in
theorem tw_401 : (Jvm.Cond.code ({ cls := "WaitedCommitsModel", name := "in", desc := "(II)Z" } : Jvm.MethodName) prog_7_method_2_code (2 : Nat) (Option.some Jvm.ClassFile.FieldType.boolean)) ∈ wc_tb := List.mem_of_getElem? (i := 401) rfl
set_option maxRecDepth 10000 in
theorem tw_402 : (Jvm.Cond.methodLink "WaitedCommitsLaw" (30 : Nat) ({ cls := "WaitedCommitsModel", name := "delay", desc := "(II)Z" } : Jvm.MethodName)) ∈ wc_tb := List.mem_of_getElem? (i := 402) rfl
set_option maxRecDepth 10000 in
theorem tw_403 : (Jvm.Cond.instanceMethod ({ cls := "WaitedCommitsModel", name := "delay", desc := "(II)Z" } : Jvm.MethodName)) ∈ wc_tb := List.mem_of_getElem? (i := 403) rfl
set_option maxRecDepth 10000 in
theorem tw_404 : (Jvm.Cond.selects "WaitedCommitsModel" ({ cls := "WaitedCommitsModel", name := "delay", desc := "(II)Z" } : Jvm.MethodName) ({ cls := "WaitedCommitsModel", name := "delay", desc := "(II)Z" } : Jvm.MethodName)) ∈ wc_tb := List.mem_of_getElem? (i := 404) rfl
set_option maxRecDepth 10000 in
theorem tw_405 : (Jvm.Cond.code ({ cls := "WaitedCommitsModel", name := "delay", desc := "(II)Z" } : Jvm.MethodName) prog_7_method_4_code (3 : Nat) (Option.some Jvm.ClassFile.FieldType.boolean)) ∈ wc_tb := List.mem_of_getElem? (i := 405) rfl
set_option maxRecDepth 10000 in
theorem tw_406 : (Jvm.Cond.methodLink "WaitedCommitsLaw" (35 : Nat) ({ cls := "WaitedCommitsModel", name := "power", desc := "(IZ)Z" } : Jvm.MethodName)) ∈ wc_tb := List.mem_of_getElem? (i := 406) rfl
set_option maxRecDepth 10000 in
theorem tw_407 : (Jvm.Cond.instanceMethod ({ cls := "WaitedCommitsModel", name := "power", desc := "(IZ)Z" } : Jvm.MethodName)) ∈ wc_tb := List.mem_of_getElem? (i := 407) rfl
set_option maxRecDepth 10000 in
theorem tw_408 : (Jvm.Cond.selects "WaitedCommitsModel" ({ cls := "WaitedCommitsModel", name := "power", desc := "(IZ)Z" } : Jvm.MethodName) ({ cls := "WaitedCommitsModel", name := "power", desc := "(IZ)Z" } : Jvm.MethodName)) ∈ wc_tb := List.mem_of_getElem? (i := 408) rfl
set_option maxRecDepth 10000 in
theorem tw_409 : (Jvm.Cond.code ({ cls := "WaitedCommitsModel", name := "power", desc := "(IZ)Z" } : Jvm.MethodName) prog_7_method_5_code (3 : Nat) (Option.some Jvm.ClassFile.FieldType.boolean)) ∈ wc_tb := List.mem_of_getElem? (i := 409) rfl
set_option maxRecDepth 10000 in
theorem tw_410 : (Jvm.Cond.methodLink "WaitedCommitsLaw" (40 : Nat) ({ cls := "WaitedCommitsModel", name := "begin", desc := "(I)Z" } : Jvm.MethodName)) ∈ wc_tb := List.mem_of_getElem? (i := 410) rfl
set_option maxRecDepth 10000 in
theorem tw_411 : (Jvm.Cond.instanceMethod ({ cls := "WaitedCommitsModel", name := "begin", desc := "(I)Z" } : Jvm.MethodName)) ∈ wc_tb := List.mem_of_getElem? (i := 411) rfl
set_option maxRecDepth 10000 in
theorem tw_412 : (Jvm.Cond.selects "WaitedCommitsModel" ({ cls := "WaitedCommitsModel", name := "begin", desc := "(I)Z" } : Jvm.MethodName) ({ cls := "WaitedCommitsModel", name := "begin", desc := "(I)Z" } : Jvm.MethodName)) ∈ wc_tb := List.mem_of_getElem? (i := 412) rfl
set_option maxRecDepth 10000 in
theorem tw_413 : (Jvm.Cond.code ({ cls := "WaitedCommitsModel", name := "begin", desc := "(I)Z" } : Jvm.MethodName) prog_7_method_11_code (2 : Nat) (Option.some Jvm.ClassFile.FieldType.boolean)) ∈ wc_tb := List.mem_of_getElem? (i := 413) rfl
set_option maxRecDepth 10000 in
theorem tw_414 : (Jvm.Cond.methodLink "WaitedCommitsModel" (82 : Nat) ({ cls := "WaitedCommitsModel", name := "least", desc := "(I)I" } : Jvm.MethodName)) ∈ wc_tb := List.mem_of_getElem? (i := 414) rfl
set_option maxRecDepth 10000 in
theorem tw_415 : (Jvm.Cond.instanceMethod ({ cls := "WaitedCommitsModel", name := "least", desc := "(I)I" } : Jvm.MethodName)) ∈ wc_tb := List.mem_of_getElem? (i := 415) rfl
set_option maxRecDepth 10000 in
theorem tw_416 : (Jvm.Cond.code ({ cls := "WaitedCommitsModel", name := "least", desc := "(I)I" } : Jvm.MethodName) prog_7_method_9_code (2 : Nat) (Option.some Jvm.ClassFile.FieldType.int)) ∈ wc_tb := List.mem_of_getElem? (i := 416) rfl
set_option maxRecDepth 10000 in
theorem tw_417 : (Jvm.Cond.methodLink "WaitedCommitsModel" (79 : Nat) ({ cls := "WaitedCommitsModel", name := "takesPart", desc := "(II)Z" } : Jvm.MethodName)) ∈ wc_tb := List.mem_of_getElem? (i := 417) rfl
set_option maxRecDepth 10000 in
theorem tw_418 : (Jvm.Cond.instanceMethod ({ cls := "WaitedCommitsModel", name := "takesPart", desc := "(II)Z" } : Jvm.MethodName)) ∈ wc_tb := List.mem_of_getElem? (i := 418) rfl
set_option maxRecDepth 10000 in
theorem tw_419 : (Jvm.Cond.code ({ cls := "WaitedCommitsModel", name := "takesPart", desc := "(II)Z" } : Jvm.MethodName) prog_7_method_8_code (3 : Nat) (Option.some Jvm.ClassFile.FieldType.boolean)) ∈ wc_tb := List.mem_of_getElem? (i := 419) rfl
set_option maxRecDepth 10000 in
theorem tw_420 : (Jvm.Cond.methodLink "WaitedCommitsModel" (86 : Nat) ({ cls := "WaitedCommitsModel", name := "forget", desc := "(I)V" } : Jvm.MethodName)) ∈ wc_tb := List.mem_of_getElem? (i := 420) rfl
set_option maxRecDepth 10000 in
theorem tw_421 : (Jvm.Cond.instanceMethod ({ cls := "WaitedCommitsModel", name := "forget", desc := "(I)V" } : Jvm.MethodName)) ∈ wc_tb := List.mem_of_getElem? (i := 421) rfl
set_option maxRecDepth 10000 in
theorem tw_422 : (Jvm.Cond.code ({ cls := "WaitedCommitsModel", name := "forget", desc := "(I)V" } : Jvm.MethodName) prog_7_method_10_code (3 : Nat) (Option.none : Option Jvm.ClassFile.FieldType)) ∈ wc_tb := List.mem_of_getElem? (i := 422) rfl
set_option maxRecDepth 10000 in
theorem tw_423 : (Jvm.Cond.methodLink "WaitedCommitsLaw" (45 : Nat) ({ cls := "WaitedCommitsModel", name := "read", desc := "(II)J" } : Jvm.MethodName)) ∈ wc_tb := List.mem_of_getElem? (i := 423) rfl
set_option maxRecDepth 10000 in
theorem tw_424 : (Jvm.Cond.instanceMethod ({ cls := "WaitedCommitsModel", name := "read", desc := "(II)J" } : Jvm.MethodName)) ∈ wc_tb := List.mem_of_getElem? (i := 424) rfl
set_option maxRecDepth 10000 in
theorem tw_425 : (Jvm.Cond.selects "WaitedCommitsModel" ({ cls := "WaitedCommitsModel", name := "read", desc := "(II)J" } : Jvm.MethodName) ({ cls := "WaitedCommitsModel", name := "read", desc := "(II)J" } : Jvm.MethodName)) ∈ wc_tb := List.mem_of_getElem? (i := 425) rfl
set_option maxRecDepth 10000 in
theorem tw_426 : (Jvm.Cond.code ({ cls := "WaitedCommitsModel", name := "read", desc := "(II)J" } : Jvm.MethodName) prog_7_method_15_code (4 : Nat) (Option.some Jvm.ClassFile.FieldType.long)) ∈ wc_tb := List.mem_of_getElem? (i := 426) rfl
set_option maxRecDepth 10000 in
theorem tw_427 : (Jvm.Cond.methodLink "WaitedCommitsModel" (100 : Nat) ({ cls := "WaitedCommitsModel", name := "active", desc := "(I)Z" } : Jvm.MethodName)) ∈ wc_tb := List.mem_of_getElem? (i := 427) rfl
set_option maxRecDepth 10000 in
theorem tw_428 : (Jvm.Cond.instanceMethod ({ cls := "WaitedCommitsModel", name := "active", desc := "(I)Z" } : Jvm.MethodName)) ∈ wc_tb := List.mem_of_getElem? (i := 428) rfl
set_option maxRecDepth 10000 in
theorem tw_429 : (Jvm.Cond.code ({ cls := "WaitedCommitsModel", name := "active", desc := "(I)Z" } : Jvm.MethodName) prog_7_method_7_code (2 : Nat) (Option.some Jvm.ClassFile.FieldType.boolean)) ∈ wc_tb := List.mem_of_getElem? (i := 429) rfl
set_option maxRecDepth 10000 in
theorem tw_430 : (Jvm.Cond.methodLink "WaitedCommitsModel" (104 : Nat) ({ cls := "WaitedCommitsModel", name := "take", desc := "(III)Z" } : Jvm.MethodName)) ∈ wc_tb := List.mem_of_getElem? (i := 430) rfl
set_option maxRecDepth 10000 in
theorem tw_431 : (Jvm.Cond.instanceMethod ({ cls := "WaitedCommitsModel", name := "take", desc := "(III)Z" } : Jvm.MethodName)) ∈ wc_tb := List.mem_of_getElem? (i := 431) rfl
set_option maxRecDepth 10000 in
theorem tw_432 : (Jvm.Cond.code ({ cls := "WaitedCommitsModel", name := "take", desc := "(III)Z" } : Jvm.MethodName) prog_7_method_13_code (5 : Nat) (Option.some Jvm.ClassFile.FieldType.boolean)) ∈ wc_tb := List.mem_of_getElem? (i := 432) rfl
set_option maxRecDepth 10000 in
theorem tw_433 : (Jvm.Cond.methodLink "WaitedCommitsModel" (93 : Nat) ({ cls := "WaitedCommitsModel", name := "conflicts", desc := "(IIII)Z" } : Jvm.MethodName)) ∈ wc_tb := List.mem_of_getElem? (i := 433) rfl
set_option maxRecDepth 10000 in
theorem tw_434 : (Jvm.Cond.instanceMethod ({ cls := "WaitedCommitsModel", name := "conflicts", desc := "(IIII)Z" } : Jvm.MethodName)) ∈ wc_tb := List.mem_of_getElem? (i := 434) rfl
set_option maxRecDepth 10000 in
theorem tw_435 : (Jvm.Cond.code ({ cls := "WaitedCommitsModel", name := "conflicts", desc := "(IIII)Z" } : Jvm.MethodName) prog_7_method_12_code (5 : Nat) (Option.some Jvm.ClassFile.FieldType.boolean)) ∈ wc_tb := List.mem_of_getElem? (i := 435) rfl
set_option maxRecDepth 10000 in
theorem tw_436 : (Jvm.Cond.methodLink "WaitedCommitsModel" (97 : Nat) ({ cls := "WaitedCommitsModel", name := "drop", desc := "(I)V" } : Jvm.MethodName)) ∈ wc_tb := List.mem_of_getElem? (i := 436) rfl
set_option maxRecDepth 10000 in
theorem tw_437 : (Jvm.Cond.instanceMethod ({ cls := "WaitedCommitsModel", name := "drop", desc := "(I)V" } : Jvm.MethodName)) ∈ wc_tb := List.mem_of_getElem? (i := 437) rfl
set_option maxRecDepth 10000 in
theorem tw_438 : (Jvm.Cond.code ({ cls := "WaitedCommitsModel", name := "drop", desc := "(I)V" } : Jvm.MethodName) prog_7_method_14_code (2 : Nat) (Option.none : Option Jvm.ClassFile.FieldType)) ∈ wc_tb := List.mem_of_getElem? (i := 438) rfl
set_option maxRecDepth 10000 in
theorem tw_439 : (Jvm.Cond.constantLong "WaitedCommitsModel" (108 : Nat) (1099511627776 : Int64)) ∈ wc_tb := List.mem_of_getElem? (i := 439) rfl
set_option maxRecDepth 10000 in
theorem tw_440 : (Jvm.Cond.methodLink "WaitedCommitsModel" (110 : Nat) ({ cls := "WaitedCommitsModel", name := "find", desc := "(II)I" } : Jvm.MethodName)) ∈ wc_tb := List.mem_of_getElem? (i := 440) rfl
set_option maxRecDepth 10000 in
theorem tw_441 : (Jvm.Cond.instanceMethod ({ cls := "WaitedCommitsModel", name := "find", desc := "(II)I" } : Jvm.MethodName)) ∈ wc_tb := List.mem_of_getElem? (i := 441) rfl
set_option maxRecDepth 10000 in
theorem tw_442 : (Jvm.Cond.code ({ cls := "WaitedCommitsModel", name := "find", desc := "(II)I" } : Jvm.MethodName) prog_7_method_27_code (5 : Nat) (Option.some Jvm.ClassFile.FieldType.int)) ∈ wc_tb := List.mem_of_getElem? (i := 442) rfl
set_option maxRecDepth 10000 in
theorem tw_443 : (Jvm.Cond.methodLink "WaitedCommitsLaw" (49 : Nat) ({ cls := "WaitedCommitsModel", name := "write", desc := "(III)Z" } : Jvm.MethodName)) ∈ wc_tb := List.mem_of_getElem? (i := 443) rfl
set_option maxRecDepth 10000 in
theorem tw_444 : (Jvm.Cond.instanceMethod ({ cls := "WaitedCommitsModel", name := "write", desc := "(III)Z" } : Jvm.MethodName)) ∈ wc_tb := List.mem_of_getElem? (i := 444) rfl
set_option maxRecDepth 10000 in
theorem tw_445 : (Jvm.Cond.selects "WaitedCommitsModel" ({ cls := "WaitedCommitsModel", name := "write", desc := "(III)Z" } : Jvm.MethodName) ({ cls := "WaitedCommitsModel", name := "write", desc := "(III)Z" } : Jvm.MethodName)) ∈ wc_tb := List.mem_of_getElem? (i := 445) rfl
set_option maxRecDepth 10000 in
theorem tw_446 : (Jvm.Cond.code ({ cls := "WaitedCommitsModel", name := "write", desc := "(III)Z" } : Jvm.MethodName) prog_7_method_16_code (4 : Nat) (Option.some Jvm.ClassFile.FieldType.boolean)) ∈ wc_tb := List.mem_of_getElem? (i := 446) rfl
set_option maxRecDepth 10000 in
theorem tw_447 : (Jvm.Cond.methodLink "WaitedCommitsLaw" (57 : Nat) ({ cls := "WaitedCommitsModel", name := "abort", desc := "(I)Z" } : Jvm.MethodName)) ∈ wc_tb := List.mem_of_getElem? (i := 447) rfl
set_option maxRecDepth 10000 in
theorem tw_448 : (Jvm.Cond.instanceMethod ({ cls := "WaitedCommitsModel", name := "abort", desc := "(I)Z" } : Jvm.MethodName)) ∈ wc_tb := List.mem_of_getElem? (i := 448) rfl
set_option maxRecDepth 10000 in
theorem tw_449 : (Jvm.Cond.selects "WaitedCommitsModel" ({ cls := "WaitedCommitsModel", name := "abort", desc := "(I)Z" } : Jvm.MethodName) ({ cls := "WaitedCommitsModel", name := "abort", desc := "(I)Z" } : Jvm.MethodName)) ∈ wc_tb := List.mem_of_getElem? (i := 449) rfl
set_option maxRecDepth 10000 in
theorem tw_450 : (Jvm.Cond.code ({ cls := "WaitedCommitsModel", name := "abort", desc := "(I)Z" } : Jvm.MethodName) prog_7_method_17_code (2 : Nat) (Option.some Jvm.ClassFile.FieldType.boolean)) ∈ wc_tb := List.mem_of_getElem? (i := 450) rfl
set_option maxRecDepth 10000 in
theorem tw_451 : (Jvm.Cond.methodLink "WaitedCommitsLaw" (53 : Nat) ({ cls := "WaitedCommitsModel", name := "commit", desc := "(I)Z" } : Jvm.MethodName)) ∈ wc_tb := List.mem_of_getElem? (i := 451) rfl
set_option maxRecDepth 10000 in
theorem tw_452 : (Jvm.Cond.instanceMethod ({ cls := "WaitedCommitsModel", name := "commit", desc := "(I)Z" } : Jvm.MethodName)) ∈ wc_tb := List.mem_of_getElem? (i := 452) rfl
set_option maxRecDepth 10000 in
theorem tw_453 : (Jvm.Cond.selects "WaitedCommitsModel" ({ cls := "WaitedCommitsModel", name := "commit", desc := "(I)Z" } : Jvm.MethodName) ({ cls := "WaitedCommitsModel", name := "commit", desc := "(I)Z" } : Jvm.MethodName)) ∈ wc_tb := List.mem_of_getElem? (i := 453) rfl
set_option maxRecDepth 10000 in
theorem tw_454 : (Jvm.Cond.code ({ cls := "WaitedCommitsModel", name := "commit", desc := "(I)Z" } : Jvm.MethodName) prog_7_method_20_code (4 : Nat) (Option.some Jvm.ClassFile.FieldType.boolean)) ∈ wc_tb := List.mem_of_getElem? (i := 454) rfl
set_option maxRecDepth 10000 in
theorem tw_455 : (Jvm.Cond.methodLink "WaitedCommitsModel" (124 : Nat) ({ cls := "WaitedCommitsModel", name := "sendAll", desc := "(III)V" } : Jvm.MethodName)) ∈ wc_tb := List.mem_of_getElem? (i := 455) rfl
set_option maxRecDepth 10000 in
theorem tw_456 : (Jvm.Cond.instanceMethod ({ cls := "WaitedCommitsModel", name := "sendAll", desc := "(III)V" } : Jvm.MethodName)) ∈ wc_tb := List.mem_of_getElem? (i := 456) rfl
set_option maxRecDepth 10000 in
theorem tw_457 : (Jvm.Cond.code ({ cls := "WaitedCommitsModel", name := "sendAll", desc := "(III)V" } : Jvm.MethodName) prog_7_method_19_code (5 : Nat) (Option.none : Option Jvm.ClassFile.FieldType)) ∈ wc_tb := List.mem_of_getElem? (i := 457) rfl
set_option maxRecDepth 10000 in
theorem tw_458 : (Jvm.Cond.methodLink "WaitedCommitsModel" (120 : Nat) ({ cls := "WaitedCommitsModel", name := "send", desc := "(IIII)V" } : Jvm.MethodName)) ∈ wc_tb := List.mem_of_getElem? (i := 458) rfl
set_option maxRecDepth 10000 in
theorem tw_459 : (Jvm.Cond.instanceMethod ({ cls := "WaitedCommitsModel", name := "send", desc := "(IIII)V" } : Jvm.MethodName)) ∈ wc_tb := List.mem_of_getElem? (i := 459) rfl
set_option maxRecDepth 10000 in
theorem tw_460 : (Jvm.Cond.code ({ cls := "WaitedCommitsModel", name := "send", desc := "(IIII)V" } : Jvm.MethodName) prog_7_method_18_code (6 : Nat) (Option.none : Option Jvm.ClassFile.FieldType)) ∈ wc_tb := List.mem_of_getElem? (i := 460) rfl
set_option maxRecDepth 10000 in
theorem tw_461 : (Jvm.Cond.methodLink "WaitedCommitsModel" (128 : Nat) ({ cls := "WaitedCommitsModel", name := "stampIfAll", desc := "(I)V" } : Jvm.MethodName)) ∈ wc_tb := List.mem_of_getElem? (i := 461) rfl
set_option maxRecDepth 10000 in
theorem tw_462 : (Jvm.Cond.instanceMethod ({ cls := "WaitedCommitsModel", name := "stampIfAll", desc := "(I)V" } : Jvm.MethodName)) ∈ wc_tb := List.mem_of_getElem? (i := 462) rfl
set_option maxRecDepth 10000 in
theorem tw_463 : (Jvm.Cond.code ({ cls := "WaitedCommitsModel", name := "stampIfAll", desc := "(I)V" } : Jvm.MethodName) prog_7_method_21_code (6 : Nat) (Option.none : Option Jvm.ClassFile.FieldType)) ∈ wc_tb := List.mem_of_getElem? (i := 463) rfl
set_option maxRecDepth 10000 in
theorem tw_464 : (Jvm.Cond.methodLink "WaitedCommitsModel" (131 : Nat) ({ cls := "WaitedCommitsModel", name := "put", desc := "(III)V" } : Jvm.MethodName)) ∈ wc_tb := List.mem_of_getElem? (i := 464) rfl
set_option maxRecDepth 10000 in
theorem tw_465 : (Jvm.Cond.instanceMethod ({ cls := "WaitedCommitsModel", name := "put", desc := "(III)V" } : Jvm.MethodName)) ∈ wc_tb := List.mem_of_getElem? (i := 465) rfl
set_option maxRecDepth 10000 in
theorem tw_466 : (Jvm.Cond.code ({ cls := "WaitedCommitsModel", name := "put", desc := "(III)V" } : Jvm.MethodName) prog_7_method_22_code (4 : Nat) (Option.none : Option Jvm.ClassFile.FieldType)) ∈ wc_tb := List.mem_of_getElem? (i := 466) rfl
set_option maxRecDepth 10000 in
theorem tw_467 : (Jvm.Cond.methodLink "WaitedCommitsLaw" (66 : Nat) ({ cls := "WaitedCommitsModel", name := "step", desc := "(I)I" } : Jvm.MethodName)) ∈ wc_tb := List.mem_of_getElem? (i := 467) rfl
set_option maxRecDepth 10000 in
theorem tw_468 : (Jvm.Cond.instanceMethod ({ cls := "WaitedCommitsModel", name := "step", desc := "(I)I" } : Jvm.MethodName)) ∈ wc_tb := List.mem_of_getElem? (i := 468) rfl
set_option maxRecDepth 10000 in
theorem tw_469 : (Jvm.Cond.selects "WaitedCommitsModel" ({ cls := "WaitedCommitsModel", name := "step", desc := "(I)I" } : Jvm.MethodName) ({ cls := "WaitedCommitsModel", name := "step", desc := "(I)I" } : Jvm.MethodName)) ∈ wc_tb := List.mem_of_getElem? (i := 469) rfl
set_option maxRecDepth 10000 in
theorem tw_470 : (Jvm.Cond.code ({ cls := "WaitedCommitsModel", name := "step", desc := "(I)I" } : Jvm.MethodName) prog_7_method_26_code (7 : Nat) (Option.some Jvm.ClassFile.FieldType.int)) ∈ wc_tb := List.mem_of_getElem? (i := 470) rfl
set_option maxRecDepth 10000 in
theorem tw_471 : (Jvm.Cond.methodLink "WaitedCommitsModel" (144 : Nat) ({ cls := "WaitedCommitsModel", name := "next", desc := "()I" } : Jvm.MethodName)) ∈ wc_tb := List.mem_of_getElem? (i := 471) rfl
set_option maxRecDepth 10000 in
theorem tw_472 : (Jvm.Cond.instanceMethod ({ cls := "WaitedCommitsModel", name := "next", desc := "()I" } : Jvm.MethodName)) ∈ wc_tb := List.mem_of_getElem? (i := 472) rfl
set_option maxRecDepth 10000 in
theorem tw_473 : (Jvm.Cond.code ({ cls := "WaitedCommitsModel", name := "next", desc := "()I" } : Jvm.MethodName) prog_7_method_25_code (6 : Nat) (Option.some Jvm.ClassFile.FieldType.int)) ∈ wc_tb := List.mem_of_getElem? (i := 473) rfl
set_option maxRecDepth 10000 in
theorem tw_474 : (Jvm.Cond.methodLink "WaitedCommitsModel" (148 : Nat) ({ cls := "WaitedCommitsModel", name := "deal", desc := "(I)V" } : Jvm.MethodName)) ∈ wc_tb := List.mem_of_getElem? (i := 474) rfl
set_option maxRecDepth 10000 in
theorem tw_475 : (Jvm.Cond.instanceMethod ({ cls := "WaitedCommitsModel", name := "deal", desc := "(I)V" } : Jvm.MethodName)) ∈ wc_tb := List.mem_of_getElem? (i := 475) rfl
set_option maxRecDepth 10000 in
theorem tw_476 : (Jvm.Cond.code ({ cls := "WaitedCommitsModel", name := "deal", desc := "(I)V" } : Jvm.MethodName) prog_7_method_23_code (7 : Nat) (Option.none : Option Jvm.ClassFile.FieldType)) ∈ wc_tb := List.mem_of_getElem? (i := 476) rfl
set_option maxRecDepth 10000 in
theorem tw_477 : (Jvm.Cond.methodLink "WaitedCommitsModel" (134 : Nat) ({ cls := "WaitedCommitsModel", name := "finish", desc := "(II)V" } : Jvm.MethodName)) ∈ wc_tb := List.mem_of_getElem? (i := 477) rfl
set_option maxRecDepth 10000 in
theorem tw_478 : (Jvm.Cond.instanceMethod ({ cls := "WaitedCommitsModel", name := "finish", desc := "(II)V" } : Jvm.MethodName)) ∈ wc_tb := List.mem_of_getElem? (i := 478) rfl
set_option maxRecDepth 10000 in
theorem tw_479 : (Jvm.Cond.code ({ cls := "WaitedCommitsModel", name := "finish", desc := "(II)V" } : Jvm.MethodName) prog_7_method_24_code (4 : Nat) (Option.none : Option Jvm.ClassFile.FieldType)) ∈ wc_tb := List.mem_of_getElem? (i := 479) rfl
set_option maxRecDepth 10000 in
theorem tw_480 : (Jvm.Cond.methodLink "WaitedCommitsModel" (141 : Nat) ({ cls := "WaitedCommitsModel", name := "raise", desc := "(II)V" } : Jvm.MethodName)) ∈ wc_tb := List.mem_of_getElem? (i := 480) rfl
set_option maxRecDepth 10000 in
theorem tw_481 : (Jvm.Cond.instanceMethod ({ cls := "WaitedCommitsModel", name := "raise", desc := "(II)V" } : Jvm.MethodName)) ∈ wc_tb := List.mem_of_getElem? (i := 481) rfl
set_option maxRecDepth 10000 in
theorem tw_482 : (Jvm.Cond.code ({ cls := "WaitedCommitsModel", name := "raise", desc := "(II)V" } : Jvm.MethodName) prog_7_method_6_code (3 : Nat) (Option.none : Option Jvm.ClassFile.FieldType)) ∈ wc_tb := List.mem_of_getElem? (i := 482) rfl
set_option maxRecDepth 10000 in
theorem tw_483 : (Jvm.Cond.methodLink "WaitedCommitsLaw" (104 : Nat) ({ cls := "WaitedCommitsModel", name := "version", desc := "(II)I" } : Jvm.MethodName)) ∈ wc_tb := List.mem_of_getElem? (i := 483) rfl
set_option maxRecDepth 10000 in
theorem tw_484 : (Jvm.Cond.instanceMethod ({ cls := "WaitedCommitsModel", name := "version", desc := "(II)I" } : Jvm.MethodName)) ∈ wc_tb := List.mem_of_getElem? (i := 484) rfl
set_option maxRecDepth 10000 in
theorem tw_485 : (Jvm.Cond.selects "WaitedCommitsModel" ({ cls := "WaitedCommitsModel", name := "version", desc := "(II)I" } : Jvm.MethodName) ({ cls := "WaitedCommitsModel", name := "version", desc := "(II)I" } : Jvm.MethodName)) ∈ wc_tb := List.mem_of_getElem? (i := 485) rfl
set_option maxRecDepth 10000 in
theorem tw_486 : (Jvm.Cond.code ({ cls := "WaitedCommitsModel", name := "version", desc := "(II)I" } : Jvm.MethodName) prog_7_method_28_code (4 : Nat) (Option.some Jvm.ClassFile.FieldType.int)) ∈ wc_tb := List.mem_of_getElem? (i := 486) rfl
set_option maxRecDepth 10000 in
theorem tw_487 : (Jvm.Cond.methodLink "WaitedCommitsLaw" (61 : Nat) ({ cls := "WaitedCommitsModel", name := "readAt", desc := "(II)J" } : Jvm.MethodName)) ∈ wc_tb := List.mem_of_getElem? (i := 487) rfl
set_option maxRecDepth 10000 in
theorem tw_488 : (Jvm.Cond.instanceMethod ({ cls := "WaitedCommitsModel", name := "readAt", desc := "(II)J" } : Jvm.MethodName)) ∈ wc_tb := List.mem_of_getElem? (i := 488) rfl
set_option maxRecDepth 10000 in
theorem tw_489 : (Jvm.Cond.selects "WaitedCommitsModel" ({ cls := "WaitedCommitsModel", name := "readAt", desc := "(II)J" } : Jvm.MethodName) ({ cls := "WaitedCommitsModel", name := "readAt", desc := "(II)J" } : Jvm.MethodName)) ∈ wc_tb := List.mem_of_getElem? (i := 489) rfl
set_option maxRecDepth 10000 in
theorem tw_490 : (Jvm.Cond.code ({ cls := "WaitedCommitsModel", name := "readAt", desc := "(II)J" } : Jvm.MethodName) prog_7_method_29_code (5 : Nat) (Option.some Jvm.ClassFile.FieldType.long)) ∈ wc_tb := List.mem_of_getElem? (i := 490) rfl
set_option maxRecDepth 10000 in
theorem tw_491 : (Jvm.Cond.methodLink "WaitedCommitsModel" (151 : Nat) ({ cls := "WaitedCommitsModel", name := "safe", desc := "(I)I" } : Jvm.MethodName)) ∈ wc_tb := List.mem_of_getElem? (i := 491) rfl
set_option maxRecDepth 10000 in
theorem tw_492 : (Jvm.Cond.instanceMethod ({ cls := "WaitedCommitsModel", name := "safe", desc := "(I)I" } : Jvm.MethodName)) ∈ wc_tb := List.mem_of_getElem? (i := 492) rfl
set_option maxRecDepth 10000 in
theorem tw_493 : (Jvm.Cond.selects "WaitedCommitsModel" ({ cls := "WaitedCommitsModel", name := "safe", desc := "(I)I" } : Jvm.MethodName) ({ cls := "WaitedCommitsModel", name := "safe", desc := "(I)I" } : Jvm.MethodName)) ∈ wc_tb := List.mem_of_getElem? (i := 493) rfl
set_option maxRecDepth 10000 in
theorem tw_494 : (Jvm.Cond.code ({ cls := "WaitedCommitsModel", name := "safe", desc := "(I)I" } : Jvm.MethodName) prog_7_method_35_code (4 : Nat) (Option.some Jvm.ClassFile.FieldType.int)) ∈ wc_tb := List.mem_of_getElem? (i := 494) rfl
set_option maxRecDepth 10000 in
theorem tw_495 : (Jvm.Cond.constantLong "WaitedCommitsModel" (154 : Nat) (2199023255552 : Int64)) ∈ wc_tb := List.mem_of_getElem? (i := 495) rfl
set_option maxRecDepth 10000 in
theorem tw_496 : (Jvm.Cond.methodLink "WaitedCommitsLaw" (71 : Nat) ({ cls := "WaitedCommitsModel", name := "now", desc := "()I" } : Jvm.MethodName)) ∈ wc_tb := List.mem_of_getElem? (i := 496) rfl
set_option maxRecDepth 10000 in
theorem tw_497 : (Jvm.Cond.instanceMethod ({ cls := "WaitedCommitsModel", name := "now", desc := "()I" } : Jvm.MethodName)) ∈ wc_tb := List.mem_of_getElem? (i := 497) rfl
set_option maxRecDepth 10000 in
theorem tw_498 : (Jvm.Cond.selects "WaitedCommitsModel" ({ cls := "WaitedCommitsModel", name := "now", desc := "()I" } : Jvm.MethodName) ({ cls := "WaitedCommitsModel", name := "now", desc := "()I" } : Jvm.MethodName)) ∈ wc_tb := List.mem_of_getElem? (i := 498) rfl
set_option maxRecDepth 10000 in
theorem tw_499 : (Jvm.Cond.code ({ cls := "WaitedCommitsModel", name := "now", desc := "()I" } : Jvm.MethodName) prog_7_method_30_code (1 : Nat) (Option.some Jvm.ClassFile.FieldType.int)) ∈ wc_tb := List.mem_of_getElem? (i := 499) rfl
set_option maxRecDepth 10000 in
theorem tw_500 : (Jvm.Cond.methodLink "WaitedCommitsLaw" (75 : Nat) ({ cls := "WaitedCommitsModel", name := "state", desc := "(I)I" } : Jvm.MethodName)) ∈ wc_tb := List.mem_of_getElem? (i := 500) rfl
set_option maxRecDepth 10000 in
theorem tw_501 : (Jvm.Cond.instanceMethod ({ cls := "WaitedCommitsModel", name := "state", desc := "(I)I" } : Jvm.MethodName)) ∈ wc_tb := List.mem_of_getElem? (i := 501) rfl
set_option maxRecDepth 10000 in
theorem tw_502 : (Jvm.Cond.selects "WaitedCommitsModel" ({ cls := "WaitedCommitsModel", name := "state", desc := "(I)I" } : Jvm.MethodName) ({ cls := "WaitedCommitsModel", name := "state", desc := "(I)I" } : Jvm.MethodName)) ∈ wc_tb := List.mem_of_getElem? (i := 502) rfl
set_option maxRecDepth 10000 in
theorem tw_503 : (Jvm.Cond.code ({ cls := "WaitedCommitsModel", name := "state", desc := "(I)I" } : Jvm.MethodName) prog_7_method_31_code (2 : Nat) (Option.some Jvm.ClassFile.FieldType.int)) ∈ wc_tb := List.mem_of_getElem? (i := 503) rfl
set_option maxRecDepth 10000 in
theorem tw_504 : (Jvm.Cond.methodLink "WaitedCommitsLaw" (79 : Nat) ({ cls := "WaitedCommitsModel", name := "stamp", desc := "(I)I" } : Jvm.MethodName)) ∈ wc_tb := List.mem_of_getElem? (i := 504) rfl
set_option maxRecDepth 10000 in
theorem tw_505 : (Jvm.Cond.instanceMethod ({ cls := "WaitedCommitsModel", name := "stamp", desc := "(I)I" } : Jvm.MethodName)) ∈ wc_tb := List.mem_of_getElem? (i := 505) rfl
set_option maxRecDepth 10000 in
theorem tw_506 : (Jvm.Cond.selects "WaitedCommitsModel" ({ cls := "WaitedCommitsModel", name := "stamp", desc := "(I)I" } : Jvm.MethodName) ({ cls := "WaitedCommitsModel", name := "stamp", desc := "(I)I" } : Jvm.MethodName)) ∈ wc_tb := List.mem_of_getElem? (i := 506) rfl
set_option maxRecDepth 10000 in
theorem tw_507 : (Jvm.Cond.code ({ cls := "WaitedCommitsModel", name := "stamp", desc := "(I)I" } : Jvm.MethodName) prog_7_method_32_code (2 : Nat) (Option.some Jvm.ClassFile.FieldType.int)) ∈ wc_tb := List.mem_of_getElem? (i := 507) rfl
set_option maxRecDepth 10000 in
theorem tw_508 : (Jvm.Cond.methodLink "WaitedCommitsLaw" (83 : Nat) ({ cls := "WaitedCommitsModel", name := "end", desc := "(I)I" } : Jvm.MethodName)) ∈ wc_tb := List.mem_of_getElem? (i := 508) rfl
set_option maxRecDepth 10000 in
theorem tw_509 : (Jvm.Cond.instanceMethod ({ cls := "WaitedCommitsModel", name := "end", desc := "(I)I" } : Jvm.MethodName)) ∈ wc_tb := List.mem_of_getElem? (i := 509) rfl
set_option maxRecDepth 10000 in
theorem tw_510 : (Jvm.Cond.selects "WaitedCommitsModel" ({ cls := "WaitedCommitsModel", name := "end", desc := "(I)I" } : Jvm.MethodName) ({ cls := "WaitedCommitsModel", name := "end", desc := "(I)I" } : Jvm.MethodName)) ∈ wc_tb := List.mem_of_getElem? (i := 510) rfl
set_option maxRecDepth 10000 in
theorem tw_511 : (Jvm.Cond.code ({ cls := "WaitedCommitsModel", name := "end", desc := "(I)I" } : Jvm.MethodName) prog_7_method_33_code (2 : Nat) (Option.some Jvm.ClassFile.FieldType.int)) ∈ wc_tb := List.mem_of_getElem? (i := 511) rfl
set_option maxRecDepth 10000 in
theorem tw_512 : (Jvm.Cond.methodLink "WaitedCommitsLaw" (87 : Nat) ({ cls := "WaitedCommitsModel", name := "marks", desc := "(I)I" } : Jvm.MethodName)) ∈ wc_tb := List.mem_of_getElem? (i := 512) rfl
set_option maxRecDepth 10000 in
theorem tw_513 : (Jvm.Cond.instanceMethod ({ cls := "WaitedCommitsModel", name := "marks", desc := "(I)I" } : Jvm.MethodName)) ∈ wc_tb := List.mem_of_getElem? (i := 513) rfl
set_option maxRecDepth 10000 in
theorem tw_514 : (Jvm.Cond.selects "WaitedCommitsModel" ({ cls := "WaitedCommitsModel", name := "marks", desc := "(I)I" } : Jvm.MethodName) ({ cls := "WaitedCommitsModel", name := "marks", desc := "(I)I" } : Jvm.MethodName)) ∈ wc_tb := List.mem_of_getElem? (i := 514) rfl
set_option maxRecDepth 10000 in
theorem tw_515 : (Jvm.Cond.code ({ cls := "WaitedCommitsModel", name := "marks", desc := "(I)I" } : Jvm.MethodName) prog_7_method_34_code (5 : Nat) (Option.some Jvm.ClassFile.FieldType.int)) ∈ wc_tb := List.mem_of_getElem? (i := 515) rfl
set_option maxRecDepth 10000 in
theorem tw_516 : (Jvm.Cond.methodLink "WaitedCommitsLaw" (91 : Nat) ({ cls := "WaitedCommitsModel", name := "safe", desc := "(I)I" } : Jvm.MethodName)) ∈ wc_tb := List.mem_of_getElem? (i := 516) rfl
set_option maxRecDepth 10000 in
theorem tw_517 : (Jvm.Cond.methodLink "WaitedCommitsLaw" (95 : Nat) ({ cls := "WaitedCommitsModel", name := "bound", desc := "(I)I" } : Jvm.MethodName)) ∈ wc_tb := List.mem_of_getElem? (i := 517) rfl
set_option maxRecDepth 10000 in
theorem tw_518 : (Jvm.Cond.instanceMethod ({ cls := "WaitedCommitsModel", name := "bound", desc := "(I)I" } : Jvm.MethodName)) ∈ wc_tb := List.mem_of_getElem? (i := 518) rfl
set_option maxRecDepth 10000 in
theorem tw_519 : (Jvm.Cond.selects "WaitedCommitsModel" ({ cls := "WaitedCommitsModel", name := "bound", desc := "(I)I" } : Jvm.MethodName) ({ cls := "WaitedCommitsModel", name := "bound", desc := "(I)I" } : Jvm.MethodName)) ∈ wc_tb := List.mem_of_getElem? (i := 519) rfl
set_option maxRecDepth 10000 in
theorem tw_520 : (Jvm.Cond.code ({ cls := "WaitedCommitsModel", name := "bound", desc := "(I)I" } : Jvm.MethodName) prog_7_method_36_code (2 : Nat) (Option.some Jvm.ClassFile.FieldType.int)) ∈ wc_tb := List.mem_of_getElem? (i := 520) rfl
set_option maxRecDepth 10000 in
theorem tw_521 : (Jvm.Cond.methodLink "WaitedCommitsLaw" (99 : Nat) ({ cls := "WaitedCommitsModel", name := "holders", desc := "(I)I" } : Jvm.MethodName)) ∈ wc_tb := List.mem_of_getElem? (i := 521) rfl
set_option maxRecDepth 10000 in
theorem tw_522 : (Jvm.Cond.instanceMethod ({ cls := "WaitedCommitsModel", name := "holders", desc := "(I)I" } : Jvm.MethodName)) ∈ wc_tb := List.mem_of_getElem? (i := 522) rfl
set_option maxRecDepth 10000 in
theorem tw_523 : (Jvm.Cond.selects "WaitedCommitsModel" ({ cls := "WaitedCommitsModel", name := "holders", desc := "(I)I" } : Jvm.MethodName) ({ cls := "WaitedCommitsModel", name := "holders", desc := "(I)I" } : Jvm.MethodName)) ∈ wc_tb := List.mem_of_getElem? (i := 523) rfl
set_option maxRecDepth 10000 in
theorem tw_524 : (Jvm.Cond.code ({ cls := "WaitedCommitsModel", name := "holders", desc := "(I)I" } : Jvm.MethodName) prog_7_method_37_code (4 : Nat) (Option.some Jvm.ClassFile.FieldType.int)) ∈ wc_tb := List.mem_of_getElem? (i := 524) rfl
set_option maxRecDepth 10000 in
theorem tw_525 : (Jvm.Cond.methodLink "WaitedCommitsLaw" (108 : Nat) ({ cls := "WaitedCommitsModel", name := "messages", desc := "()I" } : Jvm.MethodName)) ∈ wc_tb := List.mem_of_getElem? (i := 525) rfl
set_option maxRecDepth 10000 in
theorem tw_526 : (Jvm.Cond.instanceMethod ({ cls := "WaitedCommitsModel", name := "messages", desc := "()I" } : Jvm.MethodName)) ∈ wc_tb := List.mem_of_getElem? (i := 526) rfl
set_option maxRecDepth 10000 in
theorem tw_527 : (Jvm.Cond.selects "WaitedCommitsModel" ({ cls := "WaitedCommitsModel", name := "messages", desc := "()I" } : Jvm.MethodName) ({ cls := "WaitedCommitsModel", name := "messages", desc := "()I" } : Jvm.MethodName)) ∈ wc_tb := List.mem_of_getElem? (i := 527) rfl
set_option maxRecDepth 10000 in
theorem tw_528 : (Jvm.Cond.code ({ cls := "WaitedCommitsModel", name := "messages", desc := "()I" } : Jvm.MethodName) prog_7_method_38_code (3 : Nat) (Option.some Jvm.ClassFile.FieldType.int)) ∈ wc_tb := List.mem_of_getElem? (i := 528) rfl
set_option maxRecDepth 10000 in
theorem tw_529 : (Jvm.Cond.selects "WaitedCommits" ({ cls := "WaitedCommits", name := "isError", desc := "(I)Z" } : Jvm.MethodName) ({ cls := "WaitedCommits", name := "isError", desc := "(I)Z" } : Jvm.MethodName)) ∈ wc_tb := List.mem_of_getElem? (i := 529) rfl
set_option maxRecDepth 10000 in
theorem tw_530 : (Jvm.Cond.selects "WaitedCommits$Transaction" ({ cls := "WaitedCommits$Transaction", name := "leastParticipant", desc := "()I" } : Jvm.MethodName) ({ cls := "WaitedCommits$Transaction", name := "leastParticipant", desc := "()I" } : Jvm.MethodName)) ∈ wc_tb := List.mem_of_getElem? (i := 530) rfl
set_option maxRecDepth 10000 in
theorem tw_531 : (Jvm.Cond.selects "WaitedCommits$Transaction" ({ cls := "WaitedCommits$Transaction", name := "holdsAt", desc := "(I)Z" } : Jvm.MethodName) ({ cls := "WaitedCommits$Transaction", name := "holdsAt", desc := "(I)Z" } : Jvm.MethodName)) ∈ wc_tb := List.mem_of_getElem? (i := 531) rfl
set_option maxRecDepth 10000 in
theorem tw_532 : (Jvm.Cond.selects "WaitedCommits" ({ cls := "WaitedCommits", name := "isActive", desc := "(I)Z" } : Jvm.MethodName) ({ cls := "WaitedCommits", name := "isActive", desc := "(I)Z" } : Jvm.MethodName)) ∈ wc_tb := List.mem_of_getElem? (i := 532) rfl
set_option maxRecDepth 10000 in
theorem tw_533 : (Jvm.Cond.selects "WaitedCommits" ({ cls := "WaitedCommits", name := "lock", desc := "(LWaitedCommits$Transaction;II)Z" } : Jvm.MethodName) ({ cls := "WaitedCommits", name := "lock", desc := "(LWaitedCommits$Transaction;II)Z" } : Jvm.MethodName)) ∈ wc_tb := List.mem_of_getElem? (i := 533) rfl
set_option maxRecDepth 10000 in
theorem tw_534 : (Jvm.Cond.selects "WaitedCommits$Transaction" ({ cls := "WaitedCommits$Transaction", name := "giveUp", desc := "()V" } : Jvm.MethodName) ({ cls := "WaitedCommits$Transaction", name := "giveUp", desc := "()V" } : Jvm.MethodName)) ∈ wc_tb := List.mem_of_getElem? (i := 534) rfl
set_option maxRecDepth 10000 in
theorem tw_535 : (Jvm.Cond.selects "WaitedCommits$Transaction" ({ cls := "WaitedCommits$Transaction", name := "unlockAt", desc := "(I)V" } : Jvm.MethodName) ({ cls := "WaitedCommits$Transaction", name := "unlockAt", desc := "(I)V" } : Jvm.MethodName)) ∈ wc_tb := List.mem_of_getElem? (i := 535) rfl
set_option maxRecDepth 10000 in
theorem tw_536 : (Jvm.Cond.selects "WaitedCommits" ({ cls := "WaitedCommits", name := "prepare", desc := "(I)V" } : Jvm.MethodName) ({ cls := "WaitedCommits", name := "prepare", desc := "(I)V" } : Jvm.MethodName)) ∈ wc_tb := List.mem_of_getElem? (i := 536) rfl
set_option maxRecDepth 10000 in
theorem tw_537 : (Jvm.Cond.selects "WaitedCommits" ({ cls := "WaitedCommits", name := "latest", desc := "(I)I" } : Jvm.MethodName) ({ cls := "WaitedCommits", name := "latest", desc := "(I)I" } : Jvm.MethodName)) ∈ wc_tb := List.mem_of_getElem? (i := 537) rfl
set_option maxRecDepth 10000 in
theorem tw_538 : (Jvm.Cond.selects "WaitedCommits" ({ cls := "WaitedCommits", name := "sendToOthers", desc := "(II)I" } : Jvm.MethodName) ({ cls := "WaitedCommits", name := "sendToOthers", desc := "(II)I" } : Jvm.MethodName)) ∈ wc_tb := List.mem_of_getElem? (i := 538) rfl
set_option maxRecDepth 10000 in
theorem tw_539 : (Jvm.Cond.selects "WaitedCommits" ({ cls := "WaitedCommits", name := "send", desc := "(III)V" } : Jvm.MethodName) ({ cls := "WaitedCommits", name := "send", desc := "(III)V" } : Jvm.MethodName)) ∈ wc_tb := List.mem_of_getElem? (i := 539) rfl
set_option maxRecDepth 10000 in
theorem tw_540 : (Jvm.Cond.selects "WaitedCommits" ({ cls := "WaitedCommits", name := "chooseStamp", desc := "(LWaitedCommits$Transaction;)V" } : Jvm.MethodName) ({ cls := "WaitedCommits", name := "chooseStamp", desc := "(LWaitedCommits$Transaction;)V" } : Jvm.MethodName)) ∈ wc_tb := List.mem_of_getElem? (i := 540) rfl
set_option maxRecDepth 10000 in
theorem tw_541 : (Jvm.Cond.selects "WaitedCommits$Transaction" ({ cls := "WaitedCommits$Transaction", name := "greatestMark", desc := "()I" } : Jvm.MethodName) ({ cls := "WaitedCommits$Transaction", name := "greatestMark", desc := "()I" } : Jvm.MethodName)) ∈ wc_tb := List.mem_of_getElem? (i := 541) rfl
set_option maxRecDepth 10000 in
theorem tw_542 : (Jvm.Cond.selects "WaitedCommits" ({ cls := "WaitedCommits", name := "greatestReadyTime", desc := "(I)I" } : Jvm.MethodName) ({ cls := "WaitedCommits", name := "greatestReadyTime", desc := "(I)I" } : Jvm.MethodName)) ∈ wc_tb := List.mem_of_getElem? (i := 542) rfl
set_option maxRecDepth 10000 in
theorem tw_543 : (Jvm.Cond.selects "WaitedCommits" ({ cls := "WaitedCommits", name := "leastMark", desc := "(I)I" } : Jvm.MethodName) ({ cls := "WaitedCommits", name := "leastMark", desc := "(I)I" } : Jvm.MethodName)) ∈ wc_tb := List.mem_of_getElem? (i := 543) rfl
set_option maxRecDepth 10000 in
theorem tw_544 : (Jvm.Cond.selects "WaitedCommits$Site" ({ cls := "WaitedCommits$Site", name := "raiseBound", desc := "(I)V" } : Jvm.MethodName) ({ cls := "WaitedCommits$Site", name := "raiseBound", desc := "(I)V" } : Jvm.MethodName)) ∈ wc_tb := List.mem_of_getElem? (i := 544) rfl
set_option maxRecDepth 10000 in
theorem tw_545 : (Jvm.Cond.selects "WaitedCommits$Key" ({ cls := "WaitedCommits$Key", name := "valueAt", desc := "(I)J" } : Jvm.MethodName) ({ cls := "WaitedCommits$Key", name := "valueAt", desc := "(I)J" } : Jvm.MethodName)) ∈ wc_tb := List.mem_of_getElem? (i := 545) rfl
set_option maxRecDepth 10000 in
theorem tw_546 : (Jvm.Cond.selects "WaitedCommits" ({ cls := "WaitedCommits", name := "deliverMessages", desc := "()V" } : Jvm.MethodName) ({ cls := "WaitedCommits", name := "deliverMessages", desc := "()V" } : Jvm.MethodName)) ∈ wc_tb := List.mem_of_getElem? (i := 546) rfl
set_option maxRecDepth 10000 in
theorem tw_547 : (Jvm.Cond.selects "WaitedCommits" ({ cls := "WaitedCommits", name := "firstDue", desc := "()LWaitedCommits$Message;" } : Jvm.MethodName) ({ cls := "WaitedCommits", name := "firstDue", desc := "()LWaitedCommits$Message;" } : Jvm.MethodName)) ∈ wc_tb := List.mem_of_getElem? (i := 547) rfl
set_option maxRecDepth 10000 in
theorem tw_548 : (Jvm.Cond.selects "WaitedCommits" ({ cls := "WaitedCommits", name := "isDue", desc := "(LWaitedCommits$Message;)Z" } : Jvm.MethodName) ({ cls := "WaitedCommits", name := "isDue", desc := "(LWaitedCommits$Message;)Z" } : Jvm.MethodName)) ∈ wc_tb := List.mem_of_getElem? (i := 548) rfl
set_option maxRecDepth 10000 in
theorem tw_549 : (Jvm.Cond.selects "WaitedCommits$Message" ({ cls := "WaitedCommits$Message", name := "comesBefore", desc := "(LWaitedCommits$Message;)Z" } : Jvm.MethodName) ({ cls := "WaitedCommits$Message", name := "comesBefore", desc := "(LWaitedCommits$Message;)Z" } : Jvm.MethodName)) ∈ wc_tb := List.mem_of_getElem? (i := 549) rfl
set_option maxRecDepth 10000 in
theorem tw_550 : (Jvm.Cond.selects "WaitedCommits" ({ cls := "WaitedCommits", name := "dealWith", desc := "(LWaitedCommits$Message;)V" } : Jvm.MethodName) ({ cls := "WaitedCommits", name := "dealWith", desc := "(LWaitedCommits$Message;)V" } : Jvm.MethodName)) ∈ wc_tb := List.mem_of_getElem? (i := 550) rfl
set_option maxRecDepth 10000 in
theorem tw_551 : (Jvm.Cond.selects "WaitedCommits" ({ cls := "WaitedCommits", name := "takePrepare", desc := "(II)V" } : Jvm.MethodName) ({ cls := "WaitedCommits", name := "takePrepare", desc := "(II)V" } : Jvm.MethodName)) ∈ wc_tb := List.mem_of_getElem? (i := 551) rfl
set_option maxRecDepth 10000 in
theorem tw_552 : (Jvm.Cond.selects "WaitedCommits" ({ cls := "WaitedCommits", name := "takePrepared", desc := "(LWaitedCommits$Transaction;)V" } : Jvm.MethodName) ({ cls := "WaitedCommits", name := "takePrepared", desc := "(LWaitedCommits$Transaction;)V" } : Jvm.MethodName)) ∈ wc_tb := List.mem_of_getElem? (i := 552) rfl
set_option maxRecDepth 10000 in
theorem tw_553 : (Jvm.Cond.selects "WaitedCommits" ({ cls := "WaitedCommits", name := "finishAt", desc := "(LWaitedCommits$Transaction;I)V" } : Jvm.MethodName) ({ cls := "WaitedCommits", name := "finishAt", desc := "(LWaitedCommits$Transaction;I)V" } : Jvm.MethodName)) ∈ wc_tb := List.mem_of_getElem? (i := 553) rfl
set_option maxRecDepth 10000 in
theorem tw_554 : (Jvm.Cond.selects "WaitedCommits$Key" ({ cls := "WaitedCommits$Key", name := "add", desc := "(II)V" } : Jvm.MethodName) ({ cls := "WaitedCommits$Key", name := "add", desc := "(II)V" } : Jvm.MethodName)) ∈ wc_tb := List.mem_of_getElem? (i := 554) rfl
set_option maxRecDepth 10000 in
theorem tw_555 : (Jvm.Cond.selects "WaitedCommits" ({ cls := "WaitedCommits", name := "endWaiting", desc := "()I" } : Jvm.MethodName) ({ cls := "WaitedCommits", name := "endWaiting", desc := "()I" } : Jvm.MethodName)) ∈ wc_tb := List.mem_of_getElem? (i := 555) rfl
set_option maxRecDepth 10000 in
theorem tw_556 : (Jvm.Cond.selects "WaitedCommits" ({ cls := "WaitedCommits", name := "mayEnd", desc := "(LWaitedCommits$Transaction;)Z" } : Jvm.MethodName) ({ cls := "WaitedCommits", name := "mayEnd", desc := "(LWaitedCommits$Transaction;)Z" } : Jvm.MethodName)) ∈ wc_tb := List.mem_of_getElem? (i := 556) rfl
set_option maxRecDepth 10000 in
theorem tw_557 : (Jvm.Cond.selects "WaitedCommits" ({ cls := "WaitedCommits", name := "earliest", desc := "(I)I" } : Jvm.MethodName) ({ cls := "WaitedCommits", name := "earliest", desc := "(I)I" } : Jvm.MethodName)) ∈ wc_tb := List.mem_of_getElem? (i := 557) rfl
set_option maxRecDepth 10000 in
theorem tw_558 : (Jvm.Cond.selects "WaitedCommits" ({ cls := "WaitedCommits", name := "endOne", desc := "(I)V" } : Jvm.MethodName) ({ cls := "WaitedCommits", name := "endOne", desc := "(I)V" } : Jvm.MethodName)) ∈ wc_tb := List.mem_of_getElem? (i := 558) rfl
set_option maxRecDepth 10000 in
theorem tw_559 : (Jvm.Cond.selects "WaitedCommitsModel" ({ cls := "WaitedCommitsModel", name := "least", desc := "(I)I" } : Jvm.MethodName) ({ cls := "WaitedCommitsModel", name := "least", desc := "(I)I" } : Jvm.MethodName)) ∈ wc_tb := List.mem_of_getElem? (i := 559) rfl
set_option maxRecDepth 10000 in
theorem tw_560 : (Jvm.Cond.selects "WaitedCommitsModel" ({ cls := "WaitedCommitsModel", name := "takesPart", desc := "(II)Z" } : Jvm.MethodName) ({ cls := "WaitedCommitsModel", name := "takesPart", desc := "(II)Z" } : Jvm.MethodName)) ∈ wc_tb := List.mem_of_getElem? (i := 560) rfl
set_option maxRecDepth 10000 in
theorem tw_561 : (Jvm.Cond.selects "WaitedCommitsModel" ({ cls := "WaitedCommitsModel", name := "forget", desc := "(I)V" } : Jvm.MethodName) ({ cls := "WaitedCommitsModel", name := "forget", desc := "(I)V" } : Jvm.MethodName)) ∈ wc_tb := List.mem_of_getElem? (i := 561) rfl
set_option maxRecDepth 10000 in
theorem tw_562 : (Jvm.Cond.selects "WaitedCommitsModel" ({ cls := "WaitedCommitsModel", name := "active", desc := "(I)Z" } : Jvm.MethodName) ({ cls := "WaitedCommitsModel", name := "active", desc := "(I)Z" } : Jvm.MethodName)) ∈ wc_tb := List.mem_of_getElem? (i := 562) rfl
set_option maxRecDepth 10000 in
theorem tw_563 : (Jvm.Cond.selects "WaitedCommitsModel" ({ cls := "WaitedCommitsModel", name := "take", desc := "(III)Z" } : Jvm.MethodName) ({ cls := "WaitedCommitsModel", name := "take", desc := "(III)Z" } : Jvm.MethodName)) ∈ wc_tb := List.mem_of_getElem? (i := 563) rfl
set_option maxRecDepth 10000 in
theorem tw_564 : (Jvm.Cond.selects "WaitedCommitsModel" ({ cls := "WaitedCommitsModel", name := "conflicts", desc := "(IIII)Z" } : Jvm.MethodName) ({ cls := "WaitedCommitsModel", name := "conflicts", desc := "(IIII)Z" } : Jvm.MethodName)) ∈ wc_tb := List.mem_of_getElem? (i := 564) rfl
set_option maxRecDepth 10000 in
theorem tw_565 : (Jvm.Cond.selects "WaitedCommitsModel" ({ cls := "WaitedCommitsModel", name := "drop", desc := "(I)V" } : Jvm.MethodName) ({ cls := "WaitedCommitsModel", name := "drop", desc := "(I)V" } : Jvm.MethodName)) ∈ wc_tb := List.mem_of_getElem? (i := 565) rfl
set_option maxRecDepth 10000 in
theorem tw_566 : (Jvm.Cond.selects "WaitedCommitsModel" ({ cls := "WaitedCommitsModel", name := "find", desc := "(II)I" } : Jvm.MethodName) ({ cls := "WaitedCommitsModel", name := "find", desc := "(II)I" } : Jvm.MethodName)) ∈ wc_tb := List.mem_of_getElem? (i := 566) rfl
set_option maxRecDepth 10000 in
theorem tw_567 : (Jvm.Cond.selects "WaitedCommitsModel" ({ cls := "WaitedCommitsModel", name := "sendAll", desc := "(III)V" } : Jvm.MethodName) ({ cls := "WaitedCommitsModel", name := "sendAll", desc := "(III)V" } : Jvm.MethodName)) ∈ wc_tb := List.mem_of_getElem? (i := 567) rfl
set_option maxRecDepth 10000 in
theorem tw_568 : (Jvm.Cond.selects "WaitedCommitsModel" ({ cls := "WaitedCommitsModel", name := "send", desc := "(IIII)V" } : Jvm.MethodName) ({ cls := "WaitedCommitsModel", name := "send", desc := "(IIII)V" } : Jvm.MethodName)) ∈ wc_tb := List.mem_of_getElem? (i := 568) rfl
set_option maxRecDepth 10000 in
theorem tw_569 : (Jvm.Cond.selects "WaitedCommitsModel" ({ cls := "WaitedCommitsModel", name := "stampIfAll", desc := "(I)V" } : Jvm.MethodName) ({ cls := "WaitedCommitsModel", name := "stampIfAll", desc := "(I)V" } : Jvm.MethodName)) ∈ wc_tb := List.mem_of_getElem? (i := 569) rfl
set_option maxRecDepth 10000 in
theorem tw_570 : (Jvm.Cond.selects "WaitedCommitsModel" ({ cls := "WaitedCommitsModel", name := "put", desc := "(III)V" } : Jvm.MethodName) ({ cls := "WaitedCommitsModel", name := "put", desc := "(III)V" } : Jvm.MethodName)) ∈ wc_tb := List.mem_of_getElem? (i := 570) rfl
set_option maxRecDepth 10000 in
theorem tw_571 : (Jvm.Cond.selects "WaitedCommitsModel" ({ cls := "WaitedCommitsModel", name := "next", desc := "()I" } : Jvm.MethodName) ({ cls := "WaitedCommitsModel", name := "next", desc := "()I" } : Jvm.MethodName)) ∈ wc_tb := List.mem_of_getElem? (i := 571) rfl
set_option maxRecDepth 10000 in
theorem tw_572 : (Jvm.Cond.selects "WaitedCommitsModel" ({ cls := "WaitedCommitsModel", name := "deal", desc := "(I)V" } : Jvm.MethodName) ({ cls := "WaitedCommitsModel", name := "deal", desc := "(I)V" } : Jvm.MethodName)) ∈ wc_tb := List.mem_of_getElem? (i := 572) rfl
set_option maxRecDepth 10000 in
theorem tw_573 : (Jvm.Cond.selects "WaitedCommitsModel" ({ cls := "WaitedCommitsModel", name := "finish", desc := "(II)V" } : Jvm.MethodName) ({ cls := "WaitedCommitsModel", name := "finish", desc := "(II)V" } : Jvm.MethodName)) ∈ wc_tb := List.mem_of_getElem? (i := 573) rfl
set_option maxRecDepth 10000 in
theorem tw_574 : (Jvm.Cond.selects "WaitedCommitsModel" ({ cls := "WaitedCommitsModel", name := "raise", desc := "(II)V" } : Jvm.MethodName) ({ cls := "WaitedCommitsModel", name := "raise", desc := "(II)V" } : Jvm.MethodName)) ∈ wc_tb := List.mem_of_getElem? (i := 574) rfl
