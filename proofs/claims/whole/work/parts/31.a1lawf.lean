/-! facts for the law's cases -/
theorem q792 : (Cond.instanceMethod ({ cls := "PinEngines", name := "feed", desc := "(IIIII)I" } : Jvm.MethodName)) ∈ tb := tb_at 792 (by decide +kernel) rfl
theorem q793 : (Cond.selects "PinEngines" ({ cls := "PinEngines", name := "feed", desc := "(IIIII)I" } : Jvm.MethodName) ({ cls := "PinEngines", name := "feed", desc := "(IIIII)I" } : Jvm.MethodName)) ∈ tb := tb_at 793 (by decide +kernel) rfl
theorem q794 : (Cond.code ({ cls := "PinEngines", name := "feed", desc := "(IIIII)I" } : Jvm.MethodName) prog_1_method_2_code (6 : Nat) (Option.some Jvm.ClassFile.FieldType.int)) ∈ tb := tb_at 794 (by decide +kernel) rfl
theorem q800 : (Cond.instanceMethod ({ cls := "PinEngines", name := "errorPosition", desc := "()I" } : Jvm.MethodName)) ∈ tb := tb_at 800 (by decide +kernel) rfl
theorem q801 : (Cond.selects "PinEngines" ({ cls := "PinEngines", name := "errorPosition", desc := "()I" } : Jvm.MethodName) ({ cls := "PinEngines", name := "errorPosition", desc := "()I" } : Jvm.MethodName)) ∈ tb := tb_at 801 (by decide +kernel) rfl
theorem q802 : (Cond.code ({ cls := "PinEngines", name := "errorPosition", desc := "()I" } : Jvm.MethodName) prog_1_method_4_code (1 : Nat) (Option.some Jvm.ClassFile.FieldType.int)) ∈ tb := tb_at 802 (by decide +kernel) rfl
theorem q804 : (Cond.instanceMethod ({ cls := "PinEngines", name := "instructionCount", desc := "()I" } : Jvm.MethodName)) ∈ tb := tb_at 804 (by decide +kernel) rfl
theorem q805 : (Cond.selects "PinEngines" ({ cls := "PinEngines", name := "instructionCount", desc := "()I" } : Jvm.MethodName) ({ cls := "PinEngines", name := "instructionCount", desc := "()I" } : Jvm.MethodName)) ∈ tb := tb_at 805 (by decide +kernel) rfl
theorem q806 : (Cond.code ({ cls := "PinEngines", name := "instructionCount", desc := "()I" } : Jvm.MethodName) prog_1_method_5_code (1 : Nat) (Option.some Jvm.ClassFile.FieldType.int)) ∈ tb := tb_at 806 (by decide +kernel) rfl
theorem q808 : (Cond.instanceMethod ({ cls := "PinEngines", name := "engines", desc := "()I" } : Jvm.MethodName)) ∈ tb := tb_at 808 (by decide +kernel) rfl
theorem q809 : (Cond.selects "PinEngines" ({ cls := "PinEngines", name := "engines", desc := "()I" } : Jvm.MethodName) ({ cls := "PinEngines", name := "engines", desc := "()I" } : Jvm.MethodName)) ∈ tb := tb_at 809 (by decide +kernel) rfl
theorem q810 : (Cond.code ({ cls := "PinEngines", name := "engines", desc := "()I" } : Jvm.MethodName) prog_1_method_6_code (1 : Nat) (Option.some Jvm.ClassFile.FieldType.int)) ∈ tb := tb_at 810 (by decide +kernel) rfl
theorem q816 : (Cond.instanceMethod ({ cls := "PinEngines", name := "clock", desc := "()I" } : Jvm.MethodName)) ∈ tb := tb_at 816 (by decide +kernel) rfl
theorem q817 : (Cond.selects "PinEngines" ({ cls := "PinEngines", name := "clock", desc := "()I" } : Jvm.MethodName) ({ cls := "PinEngines", name := "clock", desc := "()I" } : Jvm.MethodName)) ∈ tb := tb_at 817 (by decide +kernel) rfl
theorem q818 : (Cond.code ({ cls := "PinEngines", name := "clock", desc := "()I" } : Jvm.MethodName) prog_1_method_7_code (1 : Nat) (Option.some Jvm.ClassFile.FieldType.int)) ∈ tb := tb_at 818 (by decide +kernel) rfl
theorem q820 : (Cond.instanceMethod ({ cls := "PinEngines", name := "portOwner", desc := "()I" } : Jvm.MethodName)) ∈ tb := tb_at 820 (by decide +kernel) rfl
theorem q821 : (Cond.selects "PinEngines" ({ cls := "PinEngines", name := "portOwner", desc := "()I" } : Jvm.MethodName) ({ cls := "PinEngines", name := "portOwner", desc := "()I" } : Jvm.MethodName)) ∈ tb := tb_at 821 (by decide +kernel) rfl
theorem q822 : (Cond.code ({ cls := "PinEngines", name := "portOwner", desc := "()I" } : Jvm.MethodName) prog_1_method_13_code (1 : Nat) (Option.some Jvm.ClassFile.FieldType.int)) ∈ tb := tb_at 822 (by decide +kernel) rfl
theorem q863 : (Cond.instanceMethod ({ cls := "PinEngines", name := "undoCount", desc := "()I" } : Jvm.MethodName)) ∈ tb := tb_at 863 (by decide +kernel) rfl
theorem q864 : (Cond.selects "PinEngines" ({ cls := "PinEngines", name := "undoCount", desc := "()I" } : Jvm.MethodName) ({ cls := "PinEngines", name := "undoCount", desc := "()I" } : Jvm.MethodName)) ∈ tb := tb_at 864 (by decide +kernel) rfl
theorem q865 : (Cond.code ({ cls := "PinEngines", name := "undoCount", desc := "()I" } : Jvm.MethodName) prog_1_method_42_code (1 : Nat) (Option.some Jvm.ClassFile.FieldType.int)) ∈ tb := tb_at 865 (by decide +kernel) rfl
theorem q867 : (Cond.instanceMethod ({ cls := "PinEngines", name := "undo", desc := "()I" } : Jvm.MethodName)) ∈ tb := tb_at 867 (by decide +kernel) rfl
theorem q868 : (Cond.selects "PinEngines" ({ cls := "PinEngines", name := "undo", desc := "()I" } : Jvm.MethodName) ({ cls := "PinEngines", name := "undo", desc := "()I" } : Jvm.MethodName)) ∈ tb := tb_at 868 (by decide +kernel) rfl
theorem q869 : (Cond.code ({ cls := "PinEngines", name := "undo", desc := "()I" } : Jvm.MethodName) prog_1_method_43_code (1 : Nat) (Option.some Jvm.ClassFile.FieldType.int)) ∈ tb := tb_at 869 (by decide +kernel) rfl
theorem q888 : (Cond.instanceMethod ({ cls := "PinEngines", name := "saveSnapshot", desc := "()V" } : Jvm.MethodName)) ∈ tb := tb_at 888 (by decide +kernel) rfl
theorem q889 : (Cond.selects "PinEngines" ({ cls := "PinEngines", name := "saveSnapshot", desc := "()V" } : Jvm.MethodName) ({ cls := "PinEngines", name := "saveSnapshot", desc := "()V" } : Jvm.MethodName)) ∈ tb := tb_at 889 (by decide +kernel) rfl
theorem q890 : (Cond.code ({ cls := "PinEngines", name := "saveSnapshot", desc := "()V" } : Jvm.MethodName) prog_1_method_44_code (1 : Nat) (Option.none : Option Jvm.ClassFile.FieldType)) ∈ tb := tb_at 890 (by decide +kernel) rfl
theorem q892 : (Cond.instanceMethod ({ cls := "PinEngines", name := "restoreSnapshot", desc := "()Z" } : Jvm.MethodName)) ∈ tb := tb_at 892 (by decide +kernel) rfl
theorem q893 : (Cond.selects "PinEngines" ({ cls := "PinEngines", name := "restoreSnapshot", desc := "()Z" } : Jvm.MethodName) ({ cls := "PinEngines", name := "restoreSnapshot", desc := "()Z" } : Jvm.MethodName)) ∈ tb := tb_at 893 (by decide +kernel) rfl
theorem q894 : (Cond.code ({ cls := "PinEngines", name := "restoreSnapshot", desc := "()Z" } : Jvm.MethodName) prog_1_method_45_code (1 : Nat) (Option.some Jvm.ClassFile.FieldType.boolean)) ∈ tb := tb_at 894 (by decide +kernel) rfl
theorem q896 : (Cond.static ({ cls := "PinEnginesLaw", name := "load", desc := "(LPinEngines;I[J)I" } : Jvm.MethodName)) ∈ tb := tb_at 896 (by decide +kernel) rfl
theorem q897 : (Cond.codeWith ({ cls := "PinEnginesLaw", name := "load", desc := "(LPinEngines;I[J)I" } : Jvm.MethodName) method_3_code (4 : Nat) (Option.some Jvm.ClassFile.FieldType.int) [((0 : Nat), (9 : Nat), (12 : Nat), (13 : Nat))]) ∈ tb := tb_at 897 (by decide +kernel) rfl
theorem q1210 : (Cond.static ({ cls := "PinEnginesLaw", name := "level", desc := "(LPinEngines;I[J)I" } : Jvm.MethodName)) ∈ tb := tb_at 1210 (by decide +kernel) rfl
theorem q1211 : (Cond.codeWith ({ cls := "PinEnginesLaw", name := "level", desc := "(LPinEngines;I[J)I" } : Jvm.MethodName) method_4_code (4 : Nat) (Option.some Jvm.ClassFile.FieldType.int) [((0 : Nat), (9 : Nat), (12 : Nat), (18 : Nat))]) ∈ tb := tb_at 1211 (by decide +kernel) rfl
theorem q1237 : (Cond.static ({ cls := "PinEnginesLaw", name := "latch", desc := "(LPinEngines;I[J)I" } : Jvm.MethodName)) ∈ tb := tb_at 1237 (by decide +kernel) rfl
theorem q1238 : (Cond.codeWith ({ cls := "PinEnginesLaw", name := "latch", desc := "(LPinEngines;I[J)I" } : Jvm.MethodName) method_5_code (4 : Nat) (Option.some Jvm.ClassFile.FieldType.int) [((0 : Nat), (9 : Nat), (12 : Nat), (18 : Nat))]) ∈ tb := tb_at 1238 (by decide +kernel) rfl
theorem q1244 : (Cond.static ({ cls := "PinEnginesLaw", name := "isOutput", desc := "(LPinEngines;I[J)I" } : Jvm.MethodName)) ∈ tb := tb_at 1244 (by decide +kernel) rfl
theorem q1245 : (Cond.codeWith ({ cls := "PinEnginesLaw", name := "isOutput", desc := "(LPinEngines;I[J)I" } : Jvm.MethodName) method_6_code (4 : Nat) (Option.some Jvm.ClassFile.FieldType.int) [((0 : Nat), (16 : Nat), (19 : Nat), (18 : Nat))]) ∈ tb := tb_at 1245 (by decide +kernel) rfl
theorem q1251 : (Cond.static ({ cls := "PinEnginesLaw", name := "flag", desc := "(LPinEngines;I[J)I" } : Jvm.MethodName)) ∈ tb := tb_at 1251 (by decide +kernel) rfl
theorem q1252 : (Cond.codeWith ({ cls := "PinEnginesLaw", name := "flag", desc := "(LPinEngines;I[J)I" } : Jvm.MethodName) method_7_code (4 : Nat) (Option.some Jvm.ClassFile.FieldType.int) [((0 : Nat), (9 : Nat), (12 : Nat), (18 : Nat))]) ∈ tb := tb_at 1252 (by decide +kernel) rfl
theorem q1258 : (Cond.static ({ cls := "PinEnginesLaw", name := "memory", desc := "(LPinEngines;I[J)I" } : Jvm.MethodName)) ∈ tb := tb_at 1258 (by decide +kernel) rfl
theorem q1259 : (Cond.codeWith ({ cls := "PinEnginesLaw", name := "memory", desc := "(LPinEngines;I[J)I" } : Jvm.MethodName) method_8_code (4 : Nat) (Option.some Jvm.ClassFile.FieldType.int) [((0 : Nat), (9 : Nat), (12 : Nat), (18 : Nat))]) ∈ tb := tb_at 1259 (by decide +kernel) rfl
theorem q1268 : (Cond.static ({ cls := "PinEnginesLaw", name := "pc", desc := "(LPinEngines;I[J)I" } : Jvm.MethodName)) ∈ tb := tb_at 1268 (by decide +kernel) rfl
theorem q1269 : (Cond.codeWith ({ cls := "PinEnginesLaw", name := "pc", desc := "(LPinEngines;I[J)I" } : Jvm.MethodName) method_9_code (4 : Nat) (Option.some Jvm.ClassFile.FieldType.int) [((0 : Nat), (9 : Nat), (12 : Nat), (18 : Nat))]) ∈ tb := tb_at 1269 (by decide +kernel) rfl
theorem q1280 : (Cond.static ({ cls := "PinEnginesLaw", name := "register", desc := "(LPinEngines;II[J)I" } : Jvm.MethodName)) ∈ tb := tb_at 1280 (by decide +kernel) rfl
theorem q1281 : (Cond.codeWith ({ cls := "PinEnginesLaw", name := "register", desc := "(LPinEngines;II[J)I" } : Jvm.MethodName) method_10_code (5 : Nat) (Option.some Jvm.ClassFile.FieldType.int) [((0 : Nat), (10 : Nat), (13 : Nat), (18 : Nat))]) ∈ tb := tb_at 1281 (by decide +kernel) rfl
theorem q1287 : (Cond.static ({ cls := "PinEnginesLaw", name := "fill", desc := "(LPinEngines;I[J)I" } : Jvm.MethodName)) ∈ tb := tb_at 1287 (by decide +kernel) rfl
theorem q1288 : (Cond.codeWith ({ cls := "PinEnginesLaw", name := "fill", desc := "(LPinEngines;I[J)I" } : Jvm.MethodName) method_11_code (4 : Nat) (Option.some Jvm.ClassFile.FieldType.int) [((0 : Nat), (9 : Nat), (12 : Nat), (18 : Nat))]) ∈ tb := tb_at 1288 (by decide +kernel) rfl
theorem q1294 : (Cond.static ({ cls := "PinEnginesLaw", name := "spent", desc := "(LPinEngines;I[J)I" } : Jvm.MethodName)) ∈ tb := tb_at 1294 (by decide +kernel) rfl
theorem q1295 : (Cond.codeWith ({ cls := "PinEnginesLaw", name := "spent", desc := "(LPinEngines;I[J)I" } : Jvm.MethodName) method_12_code (4 : Nat) (Option.some Jvm.ClassFile.FieldType.int) [((0 : Nat), (9 : Nat), (12 : Nat), (18 : Nat))]) ∈ tb := tb_at 1295 (by decide +kernel) rfl
theorem q1301 : (Cond.static ({ cls := "PinEnginesLaw", name := "delayLeft", desc := "(LPinEngines;I[J)I" } : Jvm.MethodName)) ∈ tb := tb_at 1301 (by decide +kernel) rfl
theorem q1302 : (Cond.codeWith ({ cls := "PinEnginesLaw", name := "delayLeft", desc := "(LPinEngines;I[J)I" } : Jvm.MethodName) method_13_code (4 : Nat) (Option.some Jvm.ClassFile.FieldType.int) [((0 : Nat), (9 : Nat), (12 : Nat), (18 : Nat))]) ∈ tb := tb_at 1302 (by decide +kernel) rfl
theorem q1308 : (Cond.static ({ cls := "PinEnginesLaw", name := "stall", desc := "(LPinEngines;I[J)I" } : Jvm.MethodName)) ∈ tb := tb_at 1308 (by decide +kernel) rfl
theorem q1309 : (Cond.codeWith ({ cls := "PinEnginesLaw", name := "stall", desc := "(LPinEngines;I[J)I" } : Jvm.MethodName) method_14_code (4 : Nat) (Option.some Jvm.ClassFile.FieldType.int) [((0 : Nat), (9 : Nat), (12 : Nat), (18 : Nat))]) ∈ tb := tb_at 1309 (by decide +kernel) rfl
theorem q1315 : (Cond.static ({ cls := "PinEnginesLaw", name := "isEnabled", desc := "(LPinEngines;I[J)I" } : Jvm.MethodName)) ∈ tb := tb_at 1315 (by decide +kernel) rfl
theorem q1316 : (Cond.codeWith ({ cls := "PinEnginesLaw", name := "isEnabled", desc := "(LPinEngines;I[J)I" } : Jvm.MethodName) method_15_code (4 : Nat) (Option.some Jvm.ClassFile.FieldType.int) [((0 : Nat), (16 : Nat), (19 : Nat), (18 : Nat))]) ∈ tb := tb_at 1316 (by decide +kernel) rfl
theorem q1322 : (Cond.static ({ cls := "PinEnginesLaw", name := "queueSize", desc := "(LPinEngines;IZ[J)I" } : Jvm.MethodName)) ∈ tb := tb_at 1322 (by decide +kernel) rfl
theorem q1323 : (Cond.codeWith ({ cls := "PinEnginesLaw", name := "queueSize", desc := "(LPinEngines;IZ[J)I" } : Jvm.MethodName) method_16_code (5 : Nat) (Option.some Jvm.ClassFile.FieldType.int) [((0 : Nat), (10 : Nat), (13 : Nat), (18 : Nat))]) ∈ tb := tb_at 1323 (by decide +kernel) rfl
theorem q1333 : (Cond.static ({ cls := "PinEnginesLaw", name := "queued", desc := "(LPinEngines;IZI[J)I" } : Jvm.MethodName)) ∈ tb := tb_at 1333 (by decide +kernel) rfl
theorem q1334 : (Cond.codeWith ({ cls := "PinEnginesLaw", name := "queued", desc := "(LPinEngines;IZI[J)I" } : Jvm.MethodName) method_17_code (6 : Nat) (Option.some Jvm.ClassFile.FieldType.int) [((0 : Nat), (11 : Nat), (14 : Nat), (18 : Nat))]) ∈ tb := tb_at 1334 (by decide +kernel) rfl
theorem q1349 : (Cond.static ({ cls := "PinEnginesLaw", name := "count", desc := "(LPinEngines;II[J)I" } : Jvm.MethodName)) ∈ tb := tb_at 1349 (by decide +kernel) rfl
theorem q1350 : (Cond.codeWith ({ cls := "PinEnginesLaw", name := "count", desc := "(LPinEngines;II[J)I" } : Jvm.MethodName) method_18_code (5 : Nat) (Option.some Jvm.ClassFile.FieldType.int) [((0 : Nat), (10 : Nat), (13 : Nat), (18 : Nat))]) ∈ tb := tb_at 1350 (by decide +kernel) rfl
theorem q1356 : (Cond.static ({ cls := "PinEnginesLaw", name := "levelAt", desc := "(LPinEngines;II[J)I" } : Jvm.MethodName)) ∈ tb := tb_at 1356 (by decide +kernel) rfl
theorem q1357 : (Cond.codeWith ({ cls := "PinEnginesLaw", name := "levelAt", desc := "(LPinEngines;II[J)I" } : Jvm.MethodName) method_19_code (5 : Nat) (Option.some Jvm.ClassFile.FieldType.int) [((0 : Nat), (10 : Nat), (13 : Nat), (18 : Nat))]) ∈ tb := tb_at 1357 (by decide +kernel) rfl
theorem q1367 : (Cond.static ({ cls := "PinEnginesLaw", name := "edges", desc := "(LPinEngines;I[J)I" } : Jvm.MethodName)) ∈ tb := tb_at 1367 (by decide +kernel) rfl
theorem q1368 : (Cond.codeWith ({ cls := "PinEnginesLaw", name := "edges", desc := "(LPinEngines;I[J)I" } : Jvm.MethodName) method_20_code (4 : Nat) (Option.some Jvm.ClassFile.FieldType.int) [((0 : Nat), (9 : Nat), (12 : Nat), (18 : Nat))]) ∈ tb := tb_at 1368 (by decide +kernel) rfl
theorem q1374 : (Cond.static ({ cls := "PinEnginesLaw", name := "highTime", desc := "(LPinEngines;I[J)I" } : Jvm.MethodName)) ∈ tb := tb_at 1374 (by decide +kernel) rfl
theorem q1375 : (Cond.codeWith ({ cls := "PinEnginesLaw", name := "highTime", desc := "(LPinEngines;I[J)I" } : Jvm.MethodName) method_21_code (4 : Nat) (Option.some Jvm.ClassFile.FieldType.int) [((0 : Nat), (9 : Nat), (12 : Nat), (18 : Nat))]) ∈ tb := tb_at 1375 (by decide +kernel) rfl
theorem q1385 : (Cond.static ({ cls := "PinEnginesLaw", name := "put", desc := "(LPinEngines;II[J)I" } : Jvm.MethodName)) ∈ tb := tb_at 1385 (by decide +kernel) rfl
theorem q1386 : (Cond.codeWith ({ cls := "PinEnginesLaw", name := "put", desc := "(LPinEngines;II[J)I" } : Jvm.MethodName) method_22_code (5 : Nat) (Option.some Jvm.ClassFile.FieldType.int) [((0 : Nat), (10 : Nat), (13 : Nat), (18 : Nat))]) ∈ tb := tb_at 1386 (by decide +kernel) rfl
theorem q1406 : (Cond.static ({ cls := "PinEnginesLaw", name := "take", desc := "(LPinEngines;I[J)I" } : Jvm.MethodName)) ∈ tb := tb_at 1406 (by decide +kernel) rfl
theorem q1407 : (Cond.codeWith ({ cls := "PinEnginesLaw", name := "take", desc := "(LPinEngines;I[J)I" } : Jvm.MethodName) method_23_code (4 : Nat) (Option.some Jvm.ClassFile.FieldType.int) [((0 : Nat), (8 : Nat), (11 : Nat), (18 : Nat))]) ∈ tb := tb_at 1407 (by decide +kernel) rfl
theorem q1418 : (Cond.static ({ cls := "PinEnginesLaw", name := "enable", desc := "(LPinEngines;IZ[J)I" } : Jvm.MethodName)) ∈ tb := tb_at 1418 (by decide +kernel) rfl
theorem q1419 : (Cond.codeWith ({ cls := "PinEnginesLaw", name := "enable", desc := "(LPinEngines;IZ[J)I" } : Jvm.MethodName) method_24_code (5 : Nat) (Option.some Jvm.ClassFile.FieldType.int) [((0 : Nat), (17 : Nat), (20 : Nat), (18 : Nat))]) ∈ tb := tb_at 1419 (by decide +kernel) rfl
theorem q1425 : (Cond.static ({ cls := "PinEnginesLaw", name := "restart", desc := "(LPinEngines;I[J)I" } : Jvm.MethodName)) ∈ tb := tb_at 1425 (by decide +kernel) rfl
theorem q1426 : (Cond.codeWith ({ cls := "PinEnginesLaw", name := "restart", desc := "(LPinEngines;I[J)I" } : Jvm.MethodName) method_25_code (4 : Nat) (Option.some Jvm.ClassFile.FieldType.int) [((0 : Nat), (9 : Nat), (12 : Nat), (18 : Nat))]) ∈ tb := tb_at 1426 (by decide +kernel) rfl
theorem q1433 : (Cond.static ({ cls := "PinEnginesLaw", name := "drive", desc := "(LPinEngines;II[J)I" } : Jvm.MethodName)) ∈ tb := tb_at 1433 (by decide +kernel) rfl
theorem q1434 : (Cond.codeWith ({ cls := "PinEnginesLaw", name := "drive", desc := "(LPinEngines;II[J)I" } : Jvm.MethodName) method_26_code (5 : Nat) (Option.some Jvm.ClassFile.FieldType.int) [((0 : Nat), (10 : Nat), (13 : Nat), (18 : Nat)), ((0 : Nat), (10 : Nat), (17 : Nat), (13 : Nat))]) ∈ tb := tb_at 1434 (by decide +kernel) rfl
theorem q1447 : (Cond.static ({ cls := "PinEnginesLaw", name := "schedule", desc := "(LPinEngines;III[J)I" } : Jvm.MethodName)) ∈ tb := tb_at 1447 (by decide +kernel) rfl
theorem q1448 : (Cond.codeWith ({ cls := "PinEnginesLaw", name := "schedule", desc := "(LPinEngines;III[J)I" } : Jvm.MethodName) method_27_code (6 : Nat) (Option.some Jvm.ClassFile.FieldType.int) [((0 : Nat), (12 : Nat), (15 : Nat), (18 : Nat)), ((0 : Nat), (12 : Nat), (19 : Nat), (13 : Nat))]) ∈ tb := tb_at 1448 (by decide +kernel) rfl
theorem q1459 : (Cond.static ({ cls := "PinEnginesLaw", name := "poke", desc := "(LPinEngines;II[J)I" } : Jvm.MethodName)) ∈ tb := tb_at 1459 (by decide +kernel) rfl
theorem q1460 : (Cond.codeWith ({ cls := "PinEnginesLaw", name := "poke", desc := "(LPinEngines;II[J)I" } : Jvm.MethodName) method_28_code (5 : Nat) (Option.some Jvm.ClassFile.FieldType.int) [((0 : Nat), (10 : Nat), (13 : Nat), (18 : Nat))]) ∈ tb := tb_at 1460 (by decide +kernel) rfl
theorem q1466 : (Cond.static ({ cls := "PinEnginesLaw", name := "run", desc := "(LPinEngines;I[J)I" } : Jvm.MethodName)) ∈ tb := tb_at 1466 (by decide +kernel) rfl
theorem q1467 : (Cond.codeWith ({ cls := "PinEnginesLaw", name := "run", desc := "(LPinEngines;I[J)I" } : Jvm.MethodName) method_29_code (4 : Nat) (Option.some Jvm.ClassFile.FieldType.int) [((0 : Nat), (9 : Nat), (12 : Nat), (13 : Nat))]) ∈ tb := tb_at 1467 (by decide +kernel) rfl
theorem q1648 : (Cond.static ({ cls := "PinEnginesLaw", name := "cyclesUntil", desc := "(LPinEngines;III[J)I" } : Jvm.MethodName)) ∈ tb := tb_at 1648 (by decide +kernel) rfl
theorem q1649 : (Cond.codeWith ({ cls := "PinEnginesLaw", name := "cyclesUntil", desc := "(LPinEngines;III[J)I" } : Jvm.MethodName) method_30_code (6 : Nat) (Option.some Jvm.ClassFile.FieldType.int) [((0 : Nat), (12 : Nat), (15 : Nat), (18 : Nat)), ((0 : Nat), (12 : Nat), (19 : Nat), (13 : Nat))]) ∈ tb := tb_at 1649 (by decide +kernel) rfl
theorem q1658 : (Cond.static ({ cls := "PinEnginesLaw", name := "cyclesTo", desc := "(LPinEngines;III[J)I" } : Jvm.MethodName)) ∈ tb := tb_at 1658 (by decide +kernel) rfl
theorem q1659 : (Cond.codeWith ({ cls := "PinEnginesLaw", name := "cyclesTo", desc := "(LPinEngines;III[J)I" } : Jvm.MethodName) method_31_code (6 : Nat) (Option.some Jvm.ClassFile.FieldType.int) [((0 : Nat), (12 : Nat), (15 : Nat), (18 : Nat)), ((0 : Nat), (12 : Nat), (19 : Nat), (13 : Nat))]) ∈ tb := tb_at 1659 (by decide +kernel) rfl
theorem q1669 : (Cond.static ({ cls := "PinEnginesLaw", name := "period", desc := "(LPinEngines;II[J)I" } : Jvm.MethodName)) ∈ tb := tb_at 1669 (by decide +kernel) rfl
theorem q1670 : (Cond.codeWith ({ cls := "PinEnginesLaw", name := "period", desc := "(LPinEngines;II[J)I" } : Jvm.MethodName) method_32_code (5 : Nat) (Option.some Jvm.ClassFile.FieldType.int) [((0 : Nat), (10 : Nat), (13 : Nat), (18 : Nat)), ((0 : Nat), (10 : Nat), (17 : Nat), (13 : Nat))]) ∈ tb := tb_at 1670 (by decide +kernel) rfl
theorem q1676 : (Cond.static ({ cls := "PinEnginesLaw", name := "stuck", desc := "(LPinEngines;I[J)I" } : Jvm.MethodName)) ∈ tb := tb_at 1676 (by decide +kernel) rfl
theorem q1677 : (Cond.codeWith ({ cls := "PinEnginesLaw", name := "stuck", desc := "(LPinEngines;I[J)I" } : Jvm.MethodName) method_33_code (4 : Nat) (Option.some Jvm.ClassFile.FieldType.int) [((0 : Nat), (9 : Nat), (12 : Nat), (13 : Nat))]) ∈ tb := tb_at 1677 (by decide +kernel) rfl
theorem q1687 : (Cond.static ({ cls := "PinEnginesLaw", name := "divider", desc := "(LPinEngines;II[J)I" } : Jvm.MethodName)) ∈ tb := tb_at 1687 (by decide +kernel) rfl
theorem q1688 : (Cond.codeWith ({ cls := "PinEnginesLaw", name := "divider", desc := "(LPinEngines;II[J)I" } : Jvm.MethodName) method_34_code (5 : Nat) (Option.some Jvm.ClassFile.FieldType.int) [((0 : Nat), (10 : Nat), (13 : Nat), (13 : Nat))]) ∈ tb := tb_at 1688 (by decide +kernel) rfl
theorem q1939 : (Cond.static ({ cls := "PinEnginesLaw", name := "query", desc := "(LPinEngines;I[J)I" } : Jvm.MethodName)) ∈ tb := tb_at 1939 (by decide +kernel) rfl
theorem q1940 : (Cond.codeWith ({ cls := "PinEnginesLaw", name := "query", desc := "(LPinEngines;I[J)I" } : Jvm.MethodName) method_36_code (4 : Nat) (Option.some Jvm.ClassFile.FieldType.int) [((0 : Nat), (9 : Nat), (12 : Nat), (13 : Nat))]) ∈ tb := tb_at 1940 (by decide +kernel) rfl
theorem q2230 : (Cond.instanceMethod ({ cls := "PinEnginesModel", name := "thrown", desc := "()I" } : Jvm.MethodName)) ∈ tb := tb_at 2230 (by decide +kernel) rfl
theorem q2231 : (Cond.selects "PinEnginesModel" ({ cls := "PinEnginesModel", name := "thrown", desc := "()I" } : Jvm.MethodName) ({ cls := "PinEnginesModel", name := "thrown", desc := "()I" } : Jvm.MethodName)) ∈ tb := tb_at 2231 (by decide +kernel) rfl
theorem q2232 : (Cond.code ({ cls := "PinEnginesModel", name := "thrown", desc := "()I" } : Jvm.MethodName) prog_15_method_2_code (1 : Nat) (Option.some Jvm.ClassFile.FieldType.int)) ∈ tb := tb_at 2232 (by decide +kernel) rfl
theorem q2234 : (Cond.instanceMethod ({ cls := "PinEnginesModel", name := "instructionCount", desc := "()I" } : Jvm.MethodName)) ∈ tb := tb_at 2234 (by decide +kernel) rfl
theorem q2235 : (Cond.selects "PinEnginesModel" ({ cls := "PinEnginesModel", name := "instructionCount", desc := "()I" } : Jvm.MethodName) ({ cls := "PinEnginesModel", name := "instructionCount", desc := "()I" } : Jvm.MethodName)) ∈ tb := tb_at 2235 (by decide +kernel) rfl
theorem q2236 : (Cond.code ({ cls := "PinEnginesModel", name := "instructionCount", desc := "()I" } : Jvm.MethodName) prog_15_method_17_code (1 : Nat) (Option.some Jvm.ClassFile.FieldType.int)) ∈ tb := tb_at 2236 (by decide +kernel) rfl
theorem q2238 : (Cond.instanceMethod ({ cls := "PinEnginesModel", name := "engines", desc := "()I" } : Jvm.MethodName)) ∈ tb := tb_at 2238 (by decide +kernel) rfl
theorem q2239 : (Cond.selects "PinEnginesModel" ({ cls := "PinEnginesModel", name := "engines", desc := "()I" } : Jvm.MethodName) ({ cls := "PinEnginesModel", name := "engines", desc := "()I" } : Jvm.MethodName)) ∈ tb := tb_at 2239 (by decide +kernel) rfl
theorem q2240 : (Cond.code ({ cls := "PinEnginesModel", name := "engines", desc := "()I" } : Jvm.MethodName) prog_15_method_18_code (3 : Nat) (Option.some Jvm.ClassFile.FieldType.int)) ∈ tb := tb_at 2240 (by decide +kernel) rfl
theorem q2246 : (Cond.instanceMethod ({ cls := "PinEnginesModel", name := "clock", desc := "()I" } : Jvm.MethodName)) ∈ tb := tb_at 2246 (by decide +kernel) rfl
theorem q2247 : (Cond.selects "PinEnginesModel" ({ cls := "PinEnginesModel", name := "clock", desc := "()I" } : Jvm.MethodName) ({ cls := "PinEnginesModel", name := "clock", desc := "()I" } : Jvm.MethodName)) ∈ tb := tb_at 2247 (by decide +kernel) rfl
theorem q2248 : (Cond.code ({ cls := "PinEnginesModel", name := "clock", desc := "()I" } : Jvm.MethodName) prog_15_method_19_code (1 : Nat) (Option.some Jvm.ClassFile.FieldType.int)) ∈ tb := tb_at 2248 (by decide +kernel) rfl
theorem q2250 : (Cond.instanceMethod ({ cls := "PinEnginesModel", name := "level", desc := "(I)I" } : Jvm.MethodName)) ∈ tb := tb_at 2250 (by decide +kernel) rfl
theorem q2251 : (Cond.selects "PinEnginesModel" ({ cls := "PinEnginesModel", name := "level", desc := "(I)I" } : Jvm.MethodName) ({ cls := "PinEnginesModel", name := "level", desc := "(I)I" } : Jvm.MethodName)) ∈ tb := tb_at 2251 (by decide +kernel) rfl
theorem q2252 : (Cond.code ({ cls := "PinEnginesModel", name := "level", desc := "(I)I" } : Jvm.MethodName) prog_15_method_21_code (2 : Nat) (Option.some Jvm.ClassFile.FieldType.int)) ∈ tb := tb_at 2252 (by decide +kernel) rfl
theorem q2272 : (Cond.instanceMethod ({ cls := "PinEnginesModel", name := "latch", desc := "(I)I" } : Jvm.MethodName)) ∈ tb := tb_at 2272 (by decide +kernel) rfl
theorem q2273 : (Cond.selects "PinEnginesModel" ({ cls := "PinEnginesModel", name := "latch", desc := "(I)I" } : Jvm.MethodName) ({ cls := "PinEnginesModel", name := "latch", desc := "(I)I" } : Jvm.MethodName)) ∈ tb := tb_at 2273 (by decide +kernel) rfl
theorem q2274 : (Cond.code ({ cls := "PinEnginesModel", name := "latch", desc := "(I)I" } : Jvm.MethodName) prog_15_method_23_code (2 : Nat) (Option.some Jvm.ClassFile.FieldType.int)) ∈ tb := tb_at 2274 (by decide +kernel) rfl
theorem q2280 : (Cond.instanceMethod ({ cls := "PinEnginesModel", name := "isOutput", desc := "(I)Z" } : Jvm.MethodName)) ∈ tb := tb_at 2280 (by decide +kernel) rfl
theorem q2281 : (Cond.selects "PinEnginesModel" ({ cls := "PinEnginesModel", name := "isOutput", desc := "(I)Z" } : Jvm.MethodName) ({ cls := "PinEnginesModel", name := "isOutput", desc := "(I)Z" } : Jvm.MethodName)) ∈ tb := tb_at 2281 (by decide +kernel) rfl
theorem q2282 : (Cond.code ({ cls := "PinEnginesModel", name := "isOutput", desc := "(I)Z" } : Jvm.MethodName) prog_15_method_24_code (2 : Nat) (Option.some Jvm.ClassFile.FieldType.boolean)) ∈ tb := tb_at 2282 (by decide +kernel) rfl
theorem q2284 : (Cond.instanceMethod ({ cls := "PinEnginesModel", name := "flag", desc := "(I)I" } : Jvm.MethodName)) ∈ tb := tb_at 2284 (by decide +kernel) rfl
theorem q2285 : (Cond.selects "PinEnginesModel" ({ cls := "PinEnginesModel", name := "flag", desc := "(I)I" } : Jvm.MethodName) ({ cls := "PinEnginesModel", name := "flag", desc := "(I)I" } : Jvm.MethodName)) ∈ tb := tb_at 2285 (by decide +kernel) rfl
theorem q2286 : (Cond.code ({ cls := "PinEnginesModel", name := "flag", desc := "(I)I" } : Jvm.MethodName) prog_15_method_25_code (2 : Nat) (Option.some Jvm.ClassFile.FieldType.int)) ∈ tb := tb_at 2286 (by decide +kernel) rfl
theorem q2288 : (Cond.instanceMethod ({ cls := "PinEnginesModel", name := "memory", desc := "(I)I" } : Jvm.MethodName)) ∈ tb := tb_at 2288 (by decide +kernel) rfl
theorem q2289 : (Cond.selects "PinEnginesModel" ({ cls := "PinEnginesModel", name := "memory", desc := "(I)I" } : Jvm.MethodName) ({ cls := "PinEnginesModel", name := "memory", desc := "(I)I" } : Jvm.MethodName)) ∈ tb := tb_at 2289 (by decide +kernel) rfl
theorem q2290 : (Cond.code ({ cls := "PinEnginesModel", name := "memory", desc := "(I)I" } : Jvm.MethodName) prog_15_method_26_code (2 : Nat) (Option.some Jvm.ClassFile.FieldType.int)) ∈ tb := tb_at 2290 (by decide +kernel) rfl
theorem q2292 : (Cond.instanceMethod ({ cls := "PinEnginesModel", name := "portOwner", desc := "()I" } : Jvm.MethodName)) ∈ tb := tb_at 2292 (by decide +kernel) rfl
theorem q2293 : (Cond.selects "PinEnginesModel" ({ cls := "PinEnginesModel", name := "portOwner", desc := "()I" } : Jvm.MethodName) ({ cls := "PinEnginesModel", name := "portOwner", desc := "()I" } : Jvm.MethodName)) ∈ tb := tb_at 2293 (by decide +kernel) rfl
theorem q2294 : (Cond.code ({ cls := "PinEnginesModel", name := "portOwner", desc := "()I" } : Jvm.MethodName) prog_15_method_27_code (1 : Nat) (Option.some Jvm.ClassFile.FieldType.int)) ∈ tb := tb_at 2294 (by decide +kernel) rfl
theorem q2296 : (Cond.instanceMethod ({ cls := "PinEnginesModel", name := "pc", desc := "(I)I" } : Jvm.MethodName)) ∈ tb := tb_at 2296 (by decide +kernel) rfl
theorem q2297 : (Cond.selects "PinEnginesModel" ({ cls := "PinEnginesModel", name := "pc", desc := "(I)I" } : Jvm.MethodName) ({ cls := "PinEnginesModel", name := "pc", desc := "(I)I" } : Jvm.MethodName)) ∈ tb := tb_at 2297 (by decide +kernel) rfl
theorem q2298 : (Cond.code ({ cls := "PinEnginesModel", name := "pc", desc := "(I)I" } : Jvm.MethodName) prog_15_method_29_code (2 : Nat) (Option.some Jvm.ClassFile.FieldType.int)) ∈ tb := tb_at 2298 (by decide +kernel) rfl
theorem q2312 : (Cond.instanceMethod ({ cls := "PinEnginesModel", name := "register", desc := "(II)I" } : Jvm.MethodName)) ∈ tb := tb_at 2312 (by decide +kernel) rfl
theorem q2313 : (Cond.selects "PinEnginesModel" ({ cls := "PinEnginesModel", name := "register", desc := "(II)I" } : Jvm.MethodName) ({ cls := "PinEnginesModel", name := "register", desc := "(II)I" } : Jvm.MethodName)) ∈ tb := tb_at 2313 (by decide +kernel) rfl
theorem q2314 : (Cond.code ({ cls := "PinEnginesModel", name := "register", desc := "(II)I" } : Jvm.MethodName) prog_15_method_30_code (3 : Nat) (Option.some Jvm.ClassFile.FieldType.int)) ∈ tb := tb_at 2314 (by decide +kernel) rfl
theorem q2316 : (Cond.instanceMethod ({ cls := "PinEnginesModel", name := "fill", desc := "(I)I" } : Jvm.MethodName)) ∈ tb := tb_at 2316 (by decide +kernel) rfl
theorem q2317 : (Cond.selects "PinEnginesModel" ({ cls := "PinEnginesModel", name := "fill", desc := "(I)I" } : Jvm.MethodName) ({ cls := "PinEnginesModel", name := "fill", desc := "(I)I" } : Jvm.MethodName)) ∈ tb := tb_at 2317 (by decide +kernel) rfl
theorem q2318 : (Cond.code ({ cls := "PinEnginesModel", name := "fill", desc := "(I)I" } : Jvm.MethodName) prog_15_method_31_code (2 : Nat) (Option.some Jvm.ClassFile.FieldType.int)) ∈ tb := tb_at 2318 (by decide +kernel) rfl
theorem q2320 : (Cond.instanceMethod ({ cls := "PinEnginesModel", name := "spent", desc := "(I)I" } : Jvm.MethodName)) ∈ tb := tb_at 2320 (by decide +kernel) rfl
theorem q2321 : (Cond.selects "PinEnginesModel" ({ cls := "PinEnginesModel", name := "spent", desc := "(I)I" } : Jvm.MethodName) ({ cls := "PinEnginesModel", name := "spent", desc := "(I)I" } : Jvm.MethodName)) ∈ tb := tb_at 2321 (by decide +kernel) rfl
theorem q2322 : (Cond.code ({ cls := "PinEnginesModel", name := "spent", desc := "(I)I" } : Jvm.MethodName) prog_15_method_32_code (2 : Nat) (Option.some Jvm.ClassFile.FieldType.int)) ∈ tb := tb_at 2322 (by decide +kernel) rfl
theorem q2324 : (Cond.instanceMethod ({ cls := "PinEnginesModel", name := "delayLeft", desc := "(I)I" } : Jvm.MethodName)) ∈ tb := tb_at 2324 (by decide +kernel) rfl
theorem q2325 : (Cond.selects "PinEnginesModel" ({ cls := "PinEnginesModel", name := "delayLeft", desc := "(I)I" } : Jvm.MethodName) ({ cls := "PinEnginesModel", name := "delayLeft", desc := "(I)I" } : Jvm.MethodName)) ∈ tb := tb_at 2325 (by decide +kernel) rfl
theorem q2326 : (Cond.code ({ cls := "PinEnginesModel", name := "delayLeft", desc := "(I)I" } : Jvm.MethodName) prog_15_method_33_code (2 : Nat) (Option.some Jvm.ClassFile.FieldType.int)) ∈ tb := tb_at 2326 (by decide +kernel) rfl
theorem q2328 : (Cond.instanceMethod ({ cls := "PinEnginesModel", name := "stall", desc := "(I)I" } : Jvm.MethodName)) ∈ tb := tb_at 2328 (by decide +kernel) rfl
theorem q2329 : (Cond.selects "PinEnginesModel" ({ cls := "PinEnginesModel", name := "stall", desc := "(I)I" } : Jvm.MethodName) ({ cls := "PinEnginesModel", name := "stall", desc := "(I)I" } : Jvm.MethodName)) ∈ tb := tb_at 2329 (by decide +kernel) rfl
theorem q2330 : (Cond.code ({ cls := "PinEnginesModel", name := "stall", desc := "(I)I" } : Jvm.MethodName) prog_15_method_34_code (2 : Nat) (Option.some Jvm.ClassFile.FieldType.int)) ∈ tb := tb_at 2330 (by decide +kernel) rfl
theorem q2332 : (Cond.instanceMethod ({ cls := "PinEnginesModel", name := "isEnabled", desc := "(I)Z" } : Jvm.MethodName)) ∈ tb := tb_at 2332 (by decide +kernel) rfl
theorem q2333 : (Cond.selects "PinEnginesModel" ({ cls := "PinEnginesModel", name := "isEnabled", desc := "(I)Z" } : Jvm.MethodName) ({ cls := "PinEnginesModel", name := "isEnabled", desc := "(I)Z" } : Jvm.MethodName)) ∈ tb := tb_at 2333 (by decide +kernel) rfl
theorem q2334 : (Cond.code ({ cls := "PinEnginesModel", name := "isEnabled", desc := "(I)Z" } : Jvm.MethodName) prog_15_method_35_code (2 : Nat) (Option.some Jvm.ClassFile.FieldType.boolean)) ∈ tb := tb_at 2334 (by decide +kernel) rfl
theorem q2336 : (Cond.instanceMethod ({ cls := "PinEnginesModel", name := "queueSize", desc := "(IZ)I" } : Jvm.MethodName)) ∈ tb := tb_at 2336 (by decide +kernel) rfl
theorem q2337 : (Cond.selects "PinEnginesModel" ({ cls := "PinEnginesModel", name := "queueSize", desc := "(IZ)I" } : Jvm.MethodName) ({ cls := "PinEnginesModel", name := "queueSize", desc := "(IZ)I" } : Jvm.MethodName)) ∈ tb := tb_at 2337 (by decide +kernel) rfl
theorem q2338 : (Cond.code ({ cls := "PinEnginesModel", name := "queueSize", desc := "(IZ)I" } : Jvm.MethodName) prog_15_method_36_code (3 : Nat) (Option.some Jvm.ClassFile.FieldType.int)) ∈ tb := tb_at 2338 (by decide +kernel) rfl
theorem q2340 : (Cond.instanceMethod ({ cls := "PinEnginesModel", name := "queued", desc := "(IZI)J" } : Jvm.MethodName)) ∈ tb := tb_at 2340 (by decide +kernel) rfl
theorem q2341 : (Cond.selects "PinEnginesModel" ({ cls := "PinEnginesModel", name := "queued", desc := "(IZI)J" } : Jvm.MethodName) ({ cls := "PinEnginesModel", name := "queued", desc := "(IZI)J" } : Jvm.MethodName)) ∈ tb := tb_at 2341 (by decide +kernel) rfl
theorem q2342 : (Cond.code ({ cls := "PinEnginesModel", name := "queued", desc := "(IZI)J" } : Jvm.MethodName) prog_15_method_38_code (5 : Nat) (Option.some Jvm.ClassFile.FieldType.long)) ∈ tb := tb_at 2342 (by decide +kernel) rfl
theorem q2349 : (Cond.instanceMethod ({ cls := "PinEnginesModel", name := "count", desc := "(II)I" } : Jvm.MethodName)) ∈ tb := tb_at 2349 (by decide +kernel) rfl
theorem q2350 : (Cond.selects "PinEnginesModel" ({ cls := "PinEnginesModel", name := "count", desc := "(II)I" } : Jvm.MethodName) ({ cls := "PinEnginesModel", name := "count", desc := "(II)I" } : Jvm.MethodName)) ∈ tb := tb_at 2350 (by decide +kernel) rfl
theorem q2351 : (Cond.code ({ cls := "PinEnginesModel", name := "count", desc := "(II)I" } : Jvm.MethodName) prog_15_method_75_code (3 : Nat) (Option.some Jvm.ClassFile.FieldType.int)) ∈ tb := tb_at 2351 (by decide +kernel) rfl
theorem q2353 : (Cond.instanceMethod ({ cls := "PinEnginesModel", name := "levelAt", desc := "(II)I" } : Jvm.MethodName)) ∈ tb := tb_at 2353 (by decide +kernel) rfl
theorem q2354 : (Cond.selects "PinEnginesModel" ({ cls := "PinEnginesModel", name := "levelAt", desc := "(II)I" } : Jvm.MethodName) ({ cls := "PinEnginesModel", name := "levelAt", desc := "(II)I" } : Jvm.MethodName)) ∈ tb := tb_at 2354 (by decide +kernel) rfl
theorem q2355 : (Cond.code ({ cls := "PinEnginesModel", name := "levelAt", desc := "(II)I" } : Jvm.MethodName) prog_15_method_76_code (4 : Nat) (Option.some Jvm.ClassFile.FieldType.int)) ∈ tb := tb_at 2355 (by decide +kernel) rfl
theorem q2357 : (Cond.instanceMethod ({ cls := "PinEnginesModel", name := "edges", desc := "(I)I" } : Jvm.MethodName)) ∈ tb := tb_at 2357 (by decide +kernel) rfl
theorem q2358 : (Cond.selects "PinEnginesModel" ({ cls := "PinEnginesModel", name := "edges", desc := "(I)I" } : Jvm.MethodName) ({ cls := "PinEnginesModel", name := "edges", desc := "(I)I" } : Jvm.MethodName)) ∈ tb := tb_at 2358 (by decide +kernel) rfl
theorem q2359 : (Cond.code ({ cls := "PinEnginesModel", name := "edges", desc := "(I)I" } : Jvm.MethodName) prog_15_method_77_code (2 : Nat) (Option.some Jvm.ClassFile.FieldType.int)) ∈ tb := tb_at 2359 (by decide +kernel) rfl
theorem q2361 : (Cond.instanceMethod ({ cls := "PinEnginesModel", name := "highTime", desc := "(I)I" } : Jvm.MethodName)) ∈ tb := tb_at 2361 (by decide +kernel) rfl
theorem q2362 : (Cond.selects "PinEnginesModel" ({ cls := "PinEnginesModel", name := "highTime", desc := "(I)I" } : Jvm.MethodName) ({ cls := "PinEnginesModel", name := "highTime", desc := "(I)I" } : Jvm.MethodName)) ∈ tb := tb_at 2362 (by decide +kernel) rfl
theorem q2363 : (Cond.code ({ cls := "PinEnginesModel", name := "highTime", desc := "(I)I" } : Jvm.MethodName) prog_15_method_78_code (2 : Nat) (Option.some Jvm.ClassFile.FieldType.int)) ∈ tb := tb_at 2363 (by decide +kernel) rfl
theorem q2365 : (Cond.instanceMethod ({ cls := "PinEnginesModel", name := "put", desc := "(II)I" } : Jvm.MethodName)) ∈ tb := tb_at 2365 (by decide +kernel) rfl
theorem q2366 : (Cond.selects "PinEnginesModel" ({ cls := "PinEnginesModel", name := "put", desc := "(II)I" } : Jvm.MethodName) ({ cls := "PinEnginesModel", name := "put", desc := "(II)I" } : Jvm.MethodName)) ∈ tb := tb_at 2366 (by decide +kernel) rfl
theorem q2367 : (Cond.code ({ cls := "PinEnginesModel", name := "put", desc := "(II)I" } : Jvm.MethodName) prog_15_method_79_code (3 : Nat) (Option.some Jvm.ClassFile.FieldType.int)) ∈ tb := tb_at 2367 (by decide +kernel) rfl
theorem q2392 : (Cond.instanceMethod ({ cls := "PinEnginesModel", name := "take", desc := "(I)J" } : Jvm.MethodName)) ∈ tb := tb_at 2392 (by decide +kernel) rfl
theorem q2393 : (Cond.selects "PinEnginesModel" ({ cls := "PinEnginesModel", name := "take", desc := "(I)J" } : Jvm.MethodName) ({ cls := "PinEnginesModel", name := "take", desc := "(I)J" } : Jvm.MethodName)) ∈ tb := tb_at 2393 (by decide +kernel) rfl
theorem q2394 : (Cond.code ({ cls := "PinEnginesModel", name := "take", desc := "(I)J" } : Jvm.MethodName) prog_15_method_80_code (2 : Nat) (Option.some Jvm.ClassFile.FieldType.long)) ∈ tb := tb_at 2394 (by decide +kernel) rfl
theorem q2401 : (Cond.instanceMethod ({ cls := "PinEnginesModel", name := "enable", desc := "(IZ)Z" } : Jvm.MethodName)) ∈ tb := tb_at 2401 (by decide +kernel) rfl
theorem q2402 : (Cond.selects "PinEnginesModel" ({ cls := "PinEnginesModel", name := "enable", desc := "(IZ)Z" } : Jvm.MethodName) ({ cls := "PinEnginesModel", name := "enable", desc := "(IZ)Z" } : Jvm.MethodName)) ∈ tb := tb_at 2402 (by decide +kernel) rfl
theorem q2403 : (Cond.code ({ cls := "PinEnginesModel", name := "enable", desc := "(IZ)Z" } : Jvm.MethodName) prog_15_method_81_code (4 : Nat) (Option.some Jvm.ClassFile.FieldType.boolean)) ∈ tb := tb_at 2403 (by decide +kernel) rfl
theorem q2405 : (Cond.instanceMethod ({ cls := "PinEnginesModel", name := "restart", desc := "(I)I" } : Jvm.MethodName)) ∈ tb := tb_at 2405 (by decide +kernel) rfl
theorem q2406 : (Cond.selects "PinEnginesModel" ({ cls := "PinEnginesModel", name := "restart", desc := "(I)I" } : Jvm.MethodName) ({ cls := "PinEnginesModel", name := "restart", desc := "(I)I" } : Jvm.MethodName)) ∈ tb := tb_at 2406 (by decide +kernel) rfl
theorem q2407 : (Cond.code ({ cls := "PinEnginesModel", name := "restart", desc := "(I)I" } : Jvm.MethodName) prog_15_method_83_code (3 : Nat) (Option.some Jvm.ClassFile.FieldType.int)) ∈ tb := tb_at 2407 (by decide +kernel) rfl
theorem q2413 : (Cond.instanceMethod ({ cls := "PinEnginesModel", name := "drive", desc := "(II)I" } : Jvm.MethodName)) ∈ tb := tb_at 2413 (by decide +kernel) rfl
theorem q2414 : (Cond.selects "PinEnginesModel" ({ cls := "PinEnginesModel", name := "drive", desc := "(II)I" } : Jvm.MethodName) ({ cls := "PinEnginesModel", name := "drive", desc := "(II)I" } : Jvm.MethodName)) ∈ tb := tb_at 2414 (by decide +kernel) rfl
theorem q2415 : (Cond.code ({ cls := "PinEnginesModel", name := "drive", desc := "(II)I" } : Jvm.MethodName) prog_15_method_84_code (3 : Nat) (Option.some Jvm.ClassFile.FieldType.int)) ∈ tb := tb_at 2415 (by decide +kernel) rfl
theorem q2421 : (Cond.instanceMethod ({ cls := "PinEnginesModel", name := "schedule", desc := "(III)I" } : Jvm.MethodName)) ∈ tb := tb_at 2421 (by decide +kernel) rfl
theorem q2422 : (Cond.selects "PinEnginesModel" ({ cls := "PinEnginesModel", name := "schedule", desc := "(III)I" } : Jvm.MethodName) ({ cls := "PinEnginesModel", name := "schedule", desc := "(III)I" } : Jvm.MethodName)) ∈ tb := tb_at 2422 (by decide +kernel) rfl
theorem q2423 : (Cond.code ({ cls := "PinEnginesModel", name := "schedule", desc := "(III)I" } : Jvm.MethodName) prog_15_method_85_code (5 : Nat) (Option.some Jvm.ClassFile.FieldType.int)) ∈ tb := tb_at 2423 (by decide +kernel) rfl
theorem q2426 : (Cond.instanceMethod ({ cls := "PinEnginesModel", name := "poke", desc := "(II)I" } : Jvm.MethodName)) ∈ tb := tb_at 2426 (by decide +kernel) rfl
theorem q2427 : (Cond.selects "PinEnginesModel" ({ cls := "PinEnginesModel", name := "poke", desc := "(II)I" } : Jvm.MethodName) ({ cls := "PinEnginesModel", name := "poke", desc := "(II)I" } : Jvm.MethodName)) ∈ tb := tb_at 2427 (by decide +kernel) rfl
theorem q2428 : (Cond.code ({ cls := "PinEnginesModel", name := "poke", desc := "(II)I" } : Jvm.MethodName) prog_15_method_86_code (4 : Nat) (Option.some Jvm.ClassFile.FieldType.int)) ∈ tb := tb_at 2428 (by decide +kernel) rfl
theorem q2430 : (Cond.instanceMethod ({ cls := "PinEnginesModel", name := "run", desc := "(I)I" } : Jvm.MethodName)) ∈ tb := tb_at 2430 (by decide +kernel) rfl
theorem q2431 : (Cond.selects "PinEnginesModel" ({ cls := "PinEnginesModel", name := "run", desc := "(I)I" } : Jvm.MethodName) ({ cls := "PinEnginesModel", name := "run", desc := "(I)I" } : Jvm.MethodName)) ∈ tb := tb_at 2431 (by decide +kernel) rfl
theorem q2432 : (Cond.code ({ cls := "PinEnginesModel", name := "run", desc := "(I)I" } : Jvm.MethodName) prog_15_method_88_code (4 : Nat) (Option.some Jvm.ClassFile.FieldType.int)) ∈ tb := tb_at 2432 (by decide +kernel) rfl
theorem q2581 : (Cond.instanceMethod ({ cls := "PinEnginesModel", name := "cyclesUntil", desc := "(III)I" } : Jvm.MethodName)) ∈ tb := tb_at 2581 (by decide +kernel) rfl
theorem q2582 : (Cond.selects "PinEnginesModel" ({ cls := "PinEnginesModel", name := "cyclesUntil", desc := "(III)I" } : Jvm.MethodName) ({ cls := "PinEnginesModel", name := "cyclesUntil", desc := "(III)I" } : Jvm.MethodName)) ∈ tb := tb_at 2582 (by decide +kernel) rfl
theorem q2583 : (Cond.code ({ cls := "PinEnginesModel", name := "cyclesUntil", desc := "(III)I" } : Jvm.MethodName) prog_15_method_90_code (6 : Nat) (Option.some Jvm.ClassFile.FieldType.int)) ∈ tb := tb_at 2583 (by decide +kernel) rfl
theorem q2588 : (Cond.instanceMethod ({ cls := "PinEnginesModel", name := "cyclesTo", desc := "(III)I" } : Jvm.MethodName)) ∈ tb := tb_at 2588 (by decide +kernel) rfl
theorem q2589 : (Cond.selects "PinEnginesModel" ({ cls := "PinEnginesModel", name := "cyclesTo", desc := "(III)I" } : Jvm.MethodName) ({ cls := "PinEnginesModel", name := "cyclesTo", desc := "(III)I" } : Jvm.MethodName)) ∈ tb := tb_at 2589 (by decide +kernel) rfl
theorem q2590 : (Cond.code ({ cls := "PinEnginesModel", name := "cyclesTo", desc := "(III)I" } : Jvm.MethodName) prog_15_method_91_code (6 : Nat) (Option.some Jvm.ClassFile.FieldType.int)) ∈ tb := tb_at 2590 (by decide +kernel) rfl
theorem q2592 : (Cond.instanceMethod ({ cls := "PinEnginesModel", name := "period", desc := "(II)I" } : Jvm.MethodName)) ∈ tb := tb_at 2592 (by decide +kernel) rfl
theorem q2593 : (Cond.selects "PinEnginesModel" ({ cls := "PinEnginesModel", name := "period", desc := "(II)I" } : Jvm.MethodName) ({ cls := "PinEnginesModel", name := "period", desc := "(II)I" } : Jvm.MethodName)) ∈ tb := tb_at 2593 (by decide +kernel) rfl
theorem q2594 : (Cond.code ({ cls := "PinEnginesModel", name := "period", desc := "(II)I" } : Jvm.MethodName) prog_15_method_92_code (7 : Nat) (Option.some Jvm.ClassFile.FieldType.int)) ∈ tb := tb_at 2594 (by decide +kernel) rfl
theorem q2596 : (Cond.instanceMethod ({ cls := "PinEnginesModel", name := "stuck", desc := "(I)I" } : Jvm.MethodName)) ∈ tb := tb_at 2596 (by decide +kernel) rfl
theorem q2597 : (Cond.selects "PinEnginesModel" ({ cls := "PinEnginesModel", name := "stuck", desc := "(I)I" } : Jvm.MethodName) ({ cls := "PinEnginesModel", name := "stuck", desc := "(I)I" } : Jvm.MethodName)) ∈ tb := tb_at 2597 (by decide +kernel) rfl
theorem q2598 : (Cond.code ({ cls := "PinEnginesModel", name := "stuck", desc := "(I)I" } : Jvm.MethodName) prog_15_method_93_code (5 : Nat) (Option.some Jvm.ClassFile.FieldType.int)) ∈ tb := tb_at 2598 (by decide +kernel) rfl
theorem q2600 : (Cond.instanceMethod ({ cls := "PinEnginesModel", name := "divider", desc := "(II)I" } : Jvm.MethodName)) ∈ tb := tb_at 2600 (by decide +kernel) rfl
theorem q2601 : (Cond.selects "PinEnginesModel" ({ cls := "PinEnginesModel", name := "divider", desc := "(II)I" } : Jvm.MethodName) ({ cls := "PinEnginesModel", name := "divider", desc := "(II)I" } : Jvm.MethodName)) ∈ tb := tb_at 2601 (by decide +kernel) rfl
theorem q2602 : (Cond.code ({ cls := "PinEnginesModel", name := "divider", desc := "(II)I" } : Jvm.MethodName) prog_15_method_94_code (13 : Nat) (Option.some Jvm.ClassFile.FieldType.int)) ∈ tb := tb_at 2602 (by decide +kernel) rfl
theorem q2615 : (Cond.instanceMethod ({ cls := "PinEnginesModel", name := "undoCount", desc := "()I" } : Jvm.MethodName)) ∈ tb := tb_at 2615 (by decide +kernel) rfl
theorem q2616 : (Cond.selects "PinEnginesModel" ({ cls := "PinEnginesModel", name := "undoCount", desc := "()I" } : Jvm.MethodName) ({ cls := "PinEnginesModel", name := "undoCount", desc := "()I" } : Jvm.MethodName)) ∈ tb := tb_at 2616 (by decide +kernel) rfl
theorem q2617 : (Cond.code ({ cls := "PinEnginesModel", name := "undoCount", desc := "()I" } : Jvm.MethodName) prog_15_method_97_code (1 : Nat) (Option.some Jvm.ClassFile.FieldType.int)) ∈ tb := tb_at 2617 (by decide +kernel) rfl
theorem q2619 : (Cond.instanceMethod ({ cls := "PinEnginesModel", name := "undo", desc := "()I" } : Jvm.MethodName)) ∈ tb := tb_at 2619 (by decide +kernel) rfl
theorem q2620 : (Cond.selects "PinEnginesModel" ({ cls := "PinEnginesModel", name := "undo", desc := "()I" } : Jvm.MethodName) ({ cls := "PinEnginesModel", name := "undo", desc := "()I" } : Jvm.MethodName)) ∈ tb := tb_at 2620 (by decide +kernel) rfl
theorem q2621 : (Cond.code ({ cls := "PinEnginesModel", name := "undo", desc := "()I" } : Jvm.MethodName) prog_15_method_98_code (1 : Nat) (Option.some Jvm.ClassFile.FieldType.int)) ∈ tb := tb_at 2621 (by decide +kernel) rfl
theorem q2623 : (Cond.instanceMethod ({ cls := "PinEnginesModel", name := "saveSnapshot", desc := "()V" } : Jvm.MethodName)) ∈ tb := tb_at 2623 (by decide +kernel) rfl
theorem q2624 : (Cond.selects "PinEnginesModel" ({ cls := "PinEnginesModel", name := "saveSnapshot", desc := "()V" } : Jvm.MethodName) ({ cls := "PinEnginesModel", name := "saveSnapshot", desc := "()V" } : Jvm.MethodName)) ∈ tb := tb_at 2624 (by decide +kernel) rfl
theorem q2625 : (Cond.code ({ cls := "PinEnginesModel", name := "saveSnapshot", desc := "()V" } : Jvm.MethodName) prog_15_method_99_code (1 : Nat) (Option.none : Option Jvm.ClassFile.FieldType)) ∈ tb := tb_at 2625 (by decide +kernel) rfl
theorem q2627 : (Cond.instanceMethod ({ cls := "PinEnginesModel", name := "restoreSnapshot", desc := "()Z" } : Jvm.MethodName)) ∈ tb := tb_at 2627 (by decide +kernel) rfl
theorem q2628 : (Cond.selects "PinEnginesModel" ({ cls := "PinEnginesModel", name := "restoreSnapshot", desc := "()Z" } : Jvm.MethodName) ({ cls := "PinEnginesModel", name := "restoreSnapshot", desc := "()Z" } : Jvm.MethodName)) ∈ tb := tb_at 2628 (by decide +kernel) rfl
theorem q2629 : (Cond.code ({ cls := "PinEnginesModel", name := "restoreSnapshot", desc := "()Z" } : Jvm.MethodName) prog_15_method_100_code (1 : Nat) (Option.some Jvm.ClassFile.FieldType.boolean)) ∈ tb := tb_at 2629 (by decide +kernel) rfl
theorem q2631 : (Cond.instanceMethod ({ cls := "PinEnginesModel", name := "feed", desc := "(IIIII)I" } : Jvm.MethodName)) ∈ tb := tb_at 2631 (by decide +kernel) rfl
theorem q2632 : (Cond.selects "PinEnginesModel" ({ cls := "PinEnginesModel", name := "feed", desc := "(IIIII)I" } : Jvm.MethodName) ({ cls := "PinEnginesModel", name := "feed", desc := "(IIIII)I" } : Jvm.MethodName)) ∈ tb := tb_at 2632 (by decide +kernel) rfl
theorem q2633 : (Cond.code ({ cls := "PinEnginesModel", name := "feed", desc := "(IIIII)I" } : Jvm.MethodName) prog_15_method_101_code (8 : Nat) (Option.some Jvm.ClassFile.FieldType.int)) ∈ tb := tb_at 2633 (by decide +kernel) rfl
theorem q2635 : (Cond.instanceMethod ({ cls := "PinEnginesModel", name := "errorPosition", desc := "()I" } : Jvm.MethodName)) ∈ tb := tb_at 2635 (by decide +kernel) rfl
theorem q2636 : (Cond.selects "PinEnginesModel" ({ cls := "PinEnginesModel", name := "errorPosition", desc := "()I" } : Jvm.MethodName) ({ cls := "PinEnginesModel", name := "errorPosition", desc := "()I" } : Jvm.MethodName)) ∈ tb := tb_at 2636 (by decide +kernel) rfl
theorem q2637 : (Cond.code ({ cls := "PinEnginesModel", name := "errorPosition", desc := "()I" } : Jvm.MethodName) prog_15_method_102_code (1 : Nat) (Option.some Jvm.ClassFile.FieldType.int)) ∈ tb := tb_at 2637 (by decide +kernel) rfl
theorem q2639 : (Cond.instanceMethod ({ cls := "PinEnginesModel", name := "load", desc := "(I)I" } : Jvm.MethodName)) ∈ tb := tb_at 2639 (by decide +kernel) rfl
theorem q2640 : (Cond.selects "PinEnginesModel" ({ cls := "PinEnginesModel", name := "load", desc := "(I)I" } : Jvm.MethodName) ({ cls := "PinEnginesModel", name := "load", desc := "(I)I" } : Jvm.MethodName)) ∈ tb := tb_at 2640 (by decide +kernel) rfl
theorem q2641 : (Cond.code ({ cls := "PinEnginesModel", name := "load", desc := "(I)I" } : Jvm.MethodName) prog_15_method_144_code (3 : Nat) (Option.some Jvm.ClassFile.FieldType.int)) ∈ tb := tb_at 2641 (by decide +kernel) rfl
theorem q2841 : (Cond.instanceMethod ({ cls := "PinEnginesModel", name := "query", desc := "(I)I" } : Jvm.MethodName)) ∈ tb := tb_at 2841 (by decide +kernel) rfl
theorem q2842 : (Cond.selects "PinEnginesModel" ({ cls := "PinEnginesModel", name := "query", desc := "(I)I" } : Jvm.MethodName) ({ cls := "PinEnginesModel", name := "query", desc := "(I)I" } : Jvm.MethodName)) ∈ tb := tb_at 2842 (by decide +kernel) rfl
theorem q2843 : (Cond.code ({ cls := "PinEnginesModel", name := "query", desc := "(I)I" } : Jvm.MethodName) prog_15_method_162_code (5 : Nat) (Option.some Jvm.ClassFile.FieldType.int)) ∈ tb := tb_at 2843 (by decide +kernel) rfl
theorem mmX12_feed : MM yX12_feed cX12_feed 6 (some .int) 5 := ⟨q155, q794, by decide +kernel, by decide +kernel, by decide +kernel⟩
theorem miX12_feed : MI yX12_feed := ⟨q792, q793⟩
theorem mmX13_feed : MM yX13_feed cX13_feed 8 (some .int) 5 := ⟨q173, q2633, by decide +kernel, by decide +kernel, by decide +kernel⟩
theorem miX13_feed : MI yX13_feed := ⟨q2631, q2632⟩
theorem mmX13_load : MM yX13_load cX13_load 3 (some .int) 1 := ⟨q173, q2641, by decide +kernel, by decide +kernel, by decide +kernel⟩
theorem miX13_load : MI yX13_load := ⟨q2639, q2640⟩
theorem mmX13_thrown : MM yX13_thrown cX13_thrown 1 (some .int) 0 := ⟨q173, q2232, by decide +kernel, by decide +kernel, by decide +kernel⟩
theorem miX13_thrown : MI yX13_thrown := ⟨q2230, q2231⟩
theorem mmX12_errorPosition : MM yX12_errorPosition cX12_errorPosition 1 (some .int) 0 := ⟨q155, q802, by decide +kernel, by decide +kernel, by decide +kernel⟩
theorem miX12_errorPosition : MI yX12_errorPosition := ⟨q800, q801⟩
theorem mmX13_errorPosition : MM yX13_errorPosition cX13_errorPosition 1 (some .int) 0 := ⟨q173, q2637, by decide +kernel, by decide +kernel, by decide +kernel⟩
theorem miX13_errorPosition : MI yX13_errorPosition := ⟨q2635, q2636⟩
theorem mmX12_instructionCount : MM yX12_instructionCount cX12_instructionCount 1 (some .int) 0 := ⟨q155, q806, by decide +kernel, by decide +kernel, by decide +kernel⟩
theorem miX12_instructionCount : MI yX12_instructionCount := ⟨q804, q805⟩
theorem mmX13_instructionCount : MM yX13_instructionCount cX13_instructionCount 1 (some .int) 0 := ⟨q173, q2236, by decide +kernel, by decide +kernel, by decide +kernel⟩
theorem miX13_instructionCount : MI yX13_instructionCount := ⟨q2234, q2235⟩
theorem mmX12_engines : MM yX12_engines cX12_engines 1 (some .int) 0 := ⟨q155, q810, by decide +kernel, by decide +kernel, by decide +kernel⟩
theorem miX12_engines : MI yX12_engines := ⟨q808, q809⟩
theorem mmX13_engines : MM yX13_engines cX13_engines 3 (some .int) 0 := ⟨q173, q2240, by decide +kernel, by decide +kernel, by decide +kernel⟩
theorem miX13_engines : MI yX13_engines := ⟨q2238, q2239⟩
theorem mmX12_clock : MM yX12_clock cX12_clock 1 (some .int) 0 := ⟨q155, q818, by decide +kernel, by decide +kernel, by decide +kernel⟩
theorem miX12_clock : MI yX12_clock := ⟨q816, q817⟩
theorem mmX13_clock : MM yX13_clock cX13_clock 1 (some .int) 0 := ⟨q173, q2248, by decide +kernel, by decide +kernel, by decide +kernel⟩
theorem miX13_clock : MI yX13_clock := ⟨q2246, q2247⟩
theorem mmX13_level : MM yX13_level cX13_level 2 (some .int) 1 := ⟨q173, q2252, by decide +kernel, by decide +kernel, by decide +kernel⟩
theorem miX13_level : MI yX13_level := ⟨q2250, q2251⟩
theorem mmX13_latch : MM yX13_latch cX13_latch 2 (some .int) 1 := ⟨q173, q2274, by decide +kernel, by decide +kernel, by decide +kernel⟩
theorem miX13_latch : MI yX13_latch := ⟨q2272, q2273⟩
theorem mmX13_isOutput : MM yX13_isOutput cX13_isOutput 2 (some .boolean) 1 := ⟨q173, q2282, by decide +kernel, by decide +kernel, by decide +kernel⟩
theorem miX13_isOutput : MI yX13_isOutput := ⟨q2280, q2281⟩
theorem mmX13_flag : MM yX13_flag cX13_flag 2 (some .int) 1 := ⟨q173, q2286, by decide +kernel, by decide +kernel, by decide +kernel⟩
theorem miX13_flag : MI yX13_flag := ⟨q2284, q2285⟩
theorem mmX13_memory : MM yX13_memory cX13_memory 2 (some .int) 1 := ⟨q173, q2290, by decide +kernel, by decide +kernel, by decide +kernel⟩
theorem miX13_memory : MI yX13_memory := ⟨q2288, q2289⟩
theorem mmX12_portOwner : MM yX12_portOwner cX12_portOwner 1 (some .int) 0 := ⟨q155, q822, by decide +kernel, by decide +kernel, by decide +kernel⟩
theorem miX12_portOwner : MI yX12_portOwner := ⟨q820, q821⟩
theorem mmX13_portOwner : MM yX13_portOwner cX13_portOwner 1 (some .int) 0 := ⟨q173, q2294, by decide +kernel, by decide +kernel, by decide +kernel⟩
theorem miX13_portOwner : MI yX13_portOwner := ⟨q2292, q2293⟩
theorem mmX13_pc : MM yX13_pc cX13_pc 2 (some .int) 1 := ⟨q173, q2298, by decide +kernel, by decide +kernel, by decide +kernel⟩
theorem miX13_pc : MI yX13_pc := ⟨q2296, q2297⟩
theorem mmX13_register : MM yX13_register cX13_register 3 (some .int) 2 := ⟨q173, q2314, by decide +kernel, by decide +kernel, by decide +kernel⟩
theorem miX13_register : MI yX13_register := ⟨q2312, q2313⟩
theorem mmX13_fill : MM yX13_fill cX13_fill 2 (some .int) 1 := ⟨q173, q2318, by decide +kernel, by decide +kernel, by decide +kernel⟩
theorem miX13_fill : MI yX13_fill := ⟨q2316, q2317⟩
theorem mmX13_spent : MM yX13_spent cX13_spent 2 (some .int) 1 := ⟨q173, q2322, by decide +kernel, by decide +kernel, by decide +kernel⟩
theorem miX13_spent : MI yX13_spent := ⟨q2320, q2321⟩
theorem mmX13_delayLeft : MM yX13_delayLeft cX13_delayLeft 2 (some .int) 1 := ⟨q173, q2326, by decide +kernel, by decide +kernel, by decide +kernel⟩
theorem miX13_delayLeft : MI yX13_delayLeft := ⟨q2324, q2325⟩
theorem mmX13_stall : MM yX13_stall cX13_stall 2 (some .int) 1 := ⟨q173, q2330, by decide +kernel, by decide +kernel, by decide +kernel⟩
theorem miX13_stall : MI yX13_stall := ⟨q2328, q2329⟩
theorem mmX13_isEnabled : MM yX13_isEnabled cX13_isEnabled 2 (some .boolean) 1 := ⟨q173, q2334, by decide +kernel, by decide +kernel, by decide +kernel⟩
theorem miX13_isEnabled : MI yX13_isEnabled := ⟨q2332, q2333⟩
theorem mmX13_queueSize : MM yX13_queueSize cX13_queueSize 3 (some .int) 2 := ⟨q173, q2338, by decide +kernel, by decide +kernel, by decide +kernel⟩
theorem miX13_queueSize : MI yX13_queueSize := ⟨q2336, q2337⟩
theorem mmX13_queued : MM yX13_queued cX13_queued 5 (some .long) 3 := ⟨q173, q2342, by decide +kernel, by decide +kernel, by decide +kernel⟩
theorem miX13_queued : MI yX13_queued := ⟨q2340, q2341⟩
theorem mmX13_count : MM yX13_count cX13_count 3 (some .int) 2 := ⟨q173, q2351, by decide +kernel, by decide +kernel, by decide +kernel⟩
theorem miX13_count : MI yX13_count := ⟨q2349, q2350⟩
theorem mmX13_levelAt : MM yX13_levelAt cX13_levelAt 4 (some .int) 2 := ⟨q173, q2355, by decide +kernel, by decide +kernel, by decide +kernel⟩
theorem miX13_levelAt : MI yX13_levelAt := ⟨q2353, q2354⟩
theorem mmX13_edges : MM yX13_edges cX13_edges 2 (some .int) 1 := ⟨q173, q2359, by decide +kernel, by decide +kernel, by decide +kernel⟩
theorem miX13_edges : MI yX13_edges := ⟨q2357, q2358⟩
theorem mmX13_highTime : MM yX13_highTime cX13_highTime 2 (some .int) 1 := ⟨q173, q2363, by decide +kernel, by decide +kernel, by decide +kernel⟩
theorem miX13_highTime : MI yX13_highTime := ⟨q2361, q2362⟩
theorem mmX13_put : MM yX13_put cX13_put 3 (some .int) 2 := ⟨q173, q2367, by decide +kernel, by decide +kernel, by decide +kernel⟩
theorem miX13_put : MI yX13_put := ⟨q2365, q2366⟩
theorem mmX13_take : MM yX13_take cX13_take 2 (some .long) 1 := ⟨q173, q2394, by decide +kernel, by decide +kernel, by decide +kernel⟩
theorem miX13_take : MI yX13_take := ⟨q2392, q2393⟩
theorem mmX13_enable : MM yX13_enable cX13_enable 4 (some .boolean) 2 := ⟨q173, q2403, by decide +kernel, by decide +kernel, by decide +kernel⟩
theorem miX13_enable : MI yX13_enable := ⟨q2401, q2402⟩
theorem mmX13_restart : MM yX13_restart cX13_restart 3 (some .int) 1 := ⟨q173, q2407, by decide +kernel, by decide +kernel, by decide +kernel⟩
theorem miX13_restart : MI yX13_restart := ⟨q2405, q2406⟩
theorem mmX13_drive : MM yX13_drive cX13_drive 3 (some .int) 2 := ⟨q173, q2415, by decide +kernel, by decide +kernel, by decide +kernel⟩
theorem miX13_drive : MI yX13_drive := ⟨q2413, q2414⟩
theorem mmX13_schedule : MM yX13_schedule cX13_schedule 5 (some .int) 3 := ⟨q173, q2423, by decide +kernel, by decide +kernel, by decide +kernel⟩
theorem miX13_schedule : MI yX13_schedule := ⟨q2421, q2422⟩
theorem mmX13_poke : MM yX13_poke cX13_poke 4 (some .int) 2 := ⟨q173, q2428, by decide +kernel, by decide +kernel, by decide +kernel⟩
theorem miX13_poke : MI yX13_poke := ⟨q2426, q2427⟩
theorem mmX13_run : MM yX13_run cX13_run 4 (some .int) 1 := ⟨q173, q2432, by decide +kernel, by decide +kernel, by decide +kernel⟩
theorem miX13_run : MI yX13_run := ⟨q2430, q2431⟩
theorem mmX13_cyclesUntil : MM yX13_cyclesUntil cX13_cyclesUntil 6 (some .int) 3 := ⟨q173, q2583, by decide +kernel, by decide +kernel, by decide +kernel⟩
theorem miX13_cyclesUntil : MI yX13_cyclesUntil := ⟨q2581, q2582⟩
theorem mmX13_cyclesTo : MM yX13_cyclesTo cX13_cyclesTo 6 (some .int) 3 := ⟨q173, q2590, by decide +kernel, by decide +kernel, by decide +kernel⟩
theorem miX13_cyclesTo : MI yX13_cyclesTo := ⟨q2588, q2589⟩
theorem mmX13_period : MM yX13_period cX13_period 7 (some .int) 2 := ⟨q173, q2594, by decide +kernel, by decide +kernel, by decide +kernel⟩
theorem miX13_period : MI yX13_period := ⟨q2592, q2593⟩
theorem mmX13_stuck : MM yX13_stuck cX13_stuck 5 (some .int) 1 := ⟨q173, q2598, by decide +kernel, by decide +kernel, by decide +kernel⟩
theorem miX13_stuck : MI yX13_stuck := ⟨q2596, q2597⟩
theorem mmX13_divider : MM yX13_divider cX13_divider 13 (some .int) 2 := ⟨q173, q2602, by decide +kernel, by decide +kernel, by decide +kernel⟩
theorem miX13_divider : MI yX13_divider := ⟨q2600, q2601⟩
theorem mmX12_undoCount : MM yX12_undoCount cX12_undoCount 1 (some .int) 0 := ⟨q155, q865, by decide +kernel, by decide +kernel, by decide +kernel⟩
theorem miX12_undoCount : MI yX12_undoCount := ⟨q863, q864⟩
theorem mmX13_undoCount : MM yX13_undoCount cX13_undoCount 1 (some .int) 0 := ⟨q173, q2617, by decide +kernel, by decide +kernel, by decide +kernel⟩
theorem miX13_undoCount : MI yX13_undoCount := ⟨q2615, q2616⟩
theorem mmX12_undo : MM yX12_undo cX12_undo 1 (some .int) 0 := ⟨q155, q869, by decide +kernel, by decide +kernel, by decide +kernel⟩
theorem miX12_undo : MI yX12_undo := ⟨q867, q868⟩
theorem mmX13_undo : MM yX13_undo cX13_undo 1 (some .int) 0 := ⟨q173, q2621, by decide +kernel, by decide +kernel, by decide +kernel⟩
theorem miX13_undo : MI yX13_undo := ⟨q2619, q2620⟩
theorem mmX12_saveSnapshot : MM yX12_saveSnapshot cX12_saveSnapshot 1 (none) 0 := ⟨q155, q890, by decide +kernel, by decide +kernel, by decide +kernel⟩
theorem miX12_saveSnapshot : MI yX12_saveSnapshot := ⟨q888, q889⟩
theorem mmX13_saveSnapshot : MM yX13_saveSnapshot cX13_saveSnapshot 1 (none) 0 := ⟨q173, q2625, by decide +kernel, by decide +kernel, by decide +kernel⟩
theorem miX13_saveSnapshot : MI yX13_saveSnapshot := ⟨q2623, q2624⟩
theorem mmX12_restoreSnapshot : MM yX12_restoreSnapshot cX12_restoreSnapshot 1 (some .boolean) 0 := ⟨q155, q894, by decide +kernel, by decide +kernel, by decide +kernel⟩
theorem miX12_restoreSnapshot : MI yX12_restoreSnapshot := ⟨q892, q893⟩
theorem mmX13_restoreSnapshot : MM yX13_restoreSnapshot cX13_restoreSnapshot 1 (some .boolean) 0 := ⟨q173, q2629, by decide +kernel, by decide +kernel, by decide +kernel⟩
theorem miX13_restoreSnapshot : MI yX13_restoreSnapshot := ⟨q2627, q2628⟩
theorem mmX13_query : MM yX13_query cX13_query 5 (some .int) 1 := ⟨q173, q2843, by decide +kernel, by decide +kernel, by decide +kernel⟩
theorem miX13_query : MI yX13_query := ⟨q2841, q2842⟩
