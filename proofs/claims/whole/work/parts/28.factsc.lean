/-! facts for the wrappers -/
theorem q900 : (Cond.instanceMethod ({ cls := "PinEngines", name := "load", desc := "(I)I" } : Jvm.MethodName)) ∈ tb := tb_of (lw_c4 (List.mem_of_getElem? (i := 26) (by decide +kernel))) rfl
theorem q901 : (Cond.selects "PinEngines" ({ cls := "PinEngines", name := "load", desc := "(I)I" } : Jvm.MethodName) ({ cls := "PinEngines", name := "load", desc := "(I)I" } : Jvm.MethodName)) ∈ tb := tb_of (lw_c4 (List.mem_of_getElem? (i := 27) (by decide +kernel))) rfl
theorem q902 : (Cond.code ({ cls := "PinEngines", name := "load", desc := "(I)I" } : Jvm.MethodName) prog_1_method_3_code (3 : Nat) (Option.some Jvm.ClassFile.FieldType.int)) ∈ tb := tb_of (lw_c4 (List.mem_of_getElem? (i := 28) (by decide +kernel))) rfl
theorem q1214 : (Cond.instanceMethod ({ cls := "PinEngines", name := "level", desc := "(I)I" } : Jvm.MethodName)) ∈ tb := tb_of (lw_c5 (List.mem_of_getElem? (i := 100) (by decide +kernel))) rfl
theorem q1215 : (Cond.selects "PinEngines" ({ cls := "PinEngines", name := "level", desc := "(I)I" } : Jvm.MethodName) ({ cls := "PinEngines", name := "level", desc := "(I)I" } : Jvm.MethodName)) ∈ tb := tb_of (lw_c5 (List.mem_of_getElem? (i := 101) (by decide +kernel))) rfl
theorem q1216 : (Cond.code ({ cls := "PinEngines", name := "level", desc := "(I)I" } : Jvm.MethodName) prog_1_method_8_code (2 : Nat) (Option.some Jvm.ClassFile.FieldType.int)) ∈ tb := tb_of (lw_c5 (List.mem_of_getElem? (i := 102) (by decide +kernel))) rfl
theorem q1240 : (Cond.instanceMethod ({ cls := "PinEngines", name := "latch", desc := "(I)I" } : Jvm.MethodName)) ∈ tb := tb_of (lw_c5 (List.mem_of_getElem? (i := 126) (by decide +kernel))) rfl
theorem q1241 : (Cond.selects "PinEngines" ({ cls := "PinEngines", name := "latch", desc := "(I)I" } : Jvm.MethodName) ({ cls := "PinEngines", name := "latch", desc := "(I)I" } : Jvm.MethodName)) ∈ tb := tb_of (lw_c5 (List.mem_of_getElem? (i := 127) (by decide +kernel))) rfl
theorem q1242 : (Cond.code ({ cls := "PinEngines", name := "latch", desc := "(I)I" } : Jvm.MethodName) prog_1_method_9_code (2 : Nat) (Option.some Jvm.ClassFile.FieldType.int)) ∈ tb := tb_of (lw_c5 (List.mem_of_getElem? (i := 128) (by decide +kernel))) rfl
theorem q1247 : (Cond.instanceMethod ({ cls := "PinEngines", name := "isOutput", desc := "(I)Z" } : Jvm.MethodName)) ∈ tb := tb_of (lw_c5 (List.mem_of_getElem? (i := 133) (by decide +kernel))) rfl
theorem q1248 : (Cond.selects "PinEngines" ({ cls := "PinEngines", name := "isOutput", desc := "(I)Z" } : Jvm.MethodName) ({ cls := "PinEngines", name := "isOutput", desc := "(I)Z" } : Jvm.MethodName)) ∈ tb := tb_of (lw_c5 (List.mem_of_getElem? (i := 134) (by decide +kernel))) rfl
theorem q1249 : (Cond.code ({ cls := "PinEngines", name := "isOutput", desc := "(I)Z" } : Jvm.MethodName) prog_1_method_10_code (2 : Nat) (Option.some Jvm.ClassFile.FieldType.boolean)) ∈ tb := tb_of (lw_c5 (List.mem_of_getElem? (i := 135) (by decide +kernel))) rfl
theorem q1254 : (Cond.instanceMethod ({ cls := "PinEngines", name := "flag", desc := "(I)I" } : Jvm.MethodName)) ∈ tb := tb_of (lw_c5 (List.mem_of_getElem? (i := 140) (by decide +kernel))) rfl
theorem q1255 : (Cond.selects "PinEngines" ({ cls := "PinEngines", name := "flag", desc := "(I)I" } : Jvm.MethodName) ({ cls := "PinEngines", name := "flag", desc := "(I)I" } : Jvm.MethodName)) ∈ tb := tb_of (lw_c5 (List.mem_of_getElem? (i := 141) (by decide +kernel))) rfl
theorem q1256 : (Cond.code ({ cls := "PinEngines", name := "flag", desc := "(I)I" } : Jvm.MethodName) prog_1_method_11_code (2 : Nat) (Option.some Jvm.ClassFile.FieldType.int)) ∈ tb := tb_of (lw_c5 (List.mem_of_getElem? (i := 142) (by decide +kernel))) rfl
theorem q1261 : (Cond.instanceMethod ({ cls := "PinEngines", name := "memory", desc := "(I)I" } : Jvm.MethodName)) ∈ tb := tb_of (lw_c5 (List.mem_of_getElem? (i := 147) (by decide +kernel))) rfl
theorem q1262 : (Cond.selects "PinEngines" ({ cls := "PinEngines", name := "memory", desc := "(I)I" } : Jvm.MethodName) ({ cls := "PinEngines", name := "memory", desc := "(I)I" } : Jvm.MethodName)) ∈ tb := tb_of (lw_c5 (List.mem_of_getElem? (i := 148) (by decide +kernel))) rfl
theorem q1263 : (Cond.code ({ cls := "PinEngines", name := "memory", desc := "(I)I" } : Jvm.MethodName) prog_1_method_12_code (2 : Nat) (Option.some Jvm.ClassFile.FieldType.int)) ∈ tb := tb_of (lw_c5 (List.mem_of_getElem? (i := 149) (by decide +kernel))) rfl
theorem q1271 : (Cond.instanceMethod ({ cls := "PinEngines", name := "pc", desc := "(I)I" } : Jvm.MethodName)) ∈ tb := tb_of (lw_c5 (List.mem_of_getElem? (i := 157) (by decide +kernel))) rfl
theorem q1272 : (Cond.selects "PinEngines" ({ cls := "PinEngines", name := "pc", desc := "(I)I" } : Jvm.MethodName) ({ cls := "PinEngines", name := "pc", desc := "(I)I" } : Jvm.MethodName)) ∈ tb := tb_of (lw_c5 (List.mem_of_getElem? (i := 158) (by decide +kernel))) rfl
theorem q1273 : (Cond.code ({ cls := "PinEngines", name := "pc", desc := "(I)I" } : Jvm.MethodName) prog_1_method_14_code (2 : Nat) (Option.some Jvm.ClassFile.FieldType.int)) ∈ tb := tb_of (lw_c5 (List.mem_of_getElem? (i := 159) (by decide +kernel))) rfl
theorem q1283 : (Cond.instanceMethod ({ cls := "PinEngines", name := "register", desc := "(II)I" } : Jvm.MethodName)) ∈ tb := tb_of (lw_c5 (List.mem_of_getElem? (i := 169) (by decide +kernel))) rfl
theorem q1284 : (Cond.selects "PinEngines" ({ cls := "PinEngines", name := "register", desc := "(II)I" } : Jvm.MethodName) ({ cls := "PinEngines", name := "register", desc := "(II)I" } : Jvm.MethodName)) ∈ tb := tb_of (lw_c5 (List.mem_of_getElem? (i := 170) (by decide +kernel))) rfl
theorem q1285 : (Cond.code ({ cls := "PinEngines", name := "register", desc := "(II)I" } : Jvm.MethodName) prog_1_method_15_code (4 : Nat) (Option.some Jvm.ClassFile.FieldType.int)) ∈ tb := tb_of (lw_c5 (List.mem_of_getElem? (i := 171) (by decide +kernel))) rfl
theorem q1290 : (Cond.instanceMethod ({ cls := "PinEngines", name := "fill", desc := "(I)I" } : Jvm.MethodName)) ∈ tb := tb_of (lw_c5 (List.mem_of_getElem? (i := 176) (by decide +kernel))) rfl
theorem q1291 : (Cond.selects "PinEngines" ({ cls := "PinEngines", name := "fill", desc := "(I)I" } : Jvm.MethodName) ({ cls := "PinEngines", name := "fill", desc := "(I)I" } : Jvm.MethodName)) ∈ tb := tb_of (lw_c5 (List.mem_of_getElem? (i := 177) (by decide +kernel))) rfl
theorem q1292 : (Cond.code ({ cls := "PinEngines", name := "fill", desc := "(I)I" } : Jvm.MethodName) prog_1_method_16_code (2 : Nat) (Option.some Jvm.ClassFile.FieldType.int)) ∈ tb := tb_of (lw_c5 (List.mem_of_getElem? (i := 178) (by decide +kernel))) rfl
theorem q1297 : (Cond.instanceMethod ({ cls := "PinEngines", name := "spent", desc := "(I)I" } : Jvm.MethodName)) ∈ tb := tb_of (lw_c5 (List.mem_of_getElem? (i := 183) (by decide +kernel))) rfl
theorem q1298 : (Cond.selects "PinEngines" ({ cls := "PinEngines", name := "spent", desc := "(I)I" } : Jvm.MethodName) ({ cls := "PinEngines", name := "spent", desc := "(I)I" } : Jvm.MethodName)) ∈ tb := tb_of (lw_c5 (List.mem_of_getElem? (i := 184) (by decide +kernel))) rfl
theorem q1299 : (Cond.code ({ cls := "PinEngines", name := "spent", desc := "(I)I" } : Jvm.MethodName) prog_1_method_17_code (2 : Nat) (Option.some Jvm.ClassFile.FieldType.int)) ∈ tb := tb_of (lw_c5 (List.mem_of_getElem? (i := 185) (by decide +kernel))) rfl
theorem q1304 : (Cond.instanceMethod ({ cls := "PinEngines", name := "delayLeft", desc := "(I)I" } : Jvm.MethodName)) ∈ tb := tb_of (lw_c5 (List.mem_of_getElem? (i := 190) (by decide +kernel))) rfl
theorem q1305 : (Cond.selects "PinEngines" ({ cls := "PinEngines", name := "delayLeft", desc := "(I)I" } : Jvm.MethodName) ({ cls := "PinEngines", name := "delayLeft", desc := "(I)I" } : Jvm.MethodName)) ∈ tb := tb_of (lw_c5 (List.mem_of_getElem? (i := 191) (by decide +kernel))) rfl
theorem q1306 : (Cond.code ({ cls := "PinEngines", name := "delayLeft", desc := "(I)I" } : Jvm.MethodName) prog_1_method_18_code (2 : Nat) (Option.some Jvm.ClassFile.FieldType.int)) ∈ tb := tb_of (lw_c5 (List.mem_of_getElem? (i := 192) (by decide +kernel))) rfl
theorem q1311 : (Cond.instanceMethod ({ cls := "PinEngines", name := "stall", desc := "(I)I" } : Jvm.MethodName)) ∈ tb := tb_of (lw_c5 (List.mem_of_getElem? (i := 197) (by decide +kernel))) rfl
theorem q1312 : (Cond.selects "PinEngines" ({ cls := "PinEngines", name := "stall", desc := "(I)I" } : Jvm.MethodName) ({ cls := "PinEngines", name := "stall", desc := "(I)I" } : Jvm.MethodName)) ∈ tb := tb_of (lw_c5 (List.mem_of_getElem? (i := 198) (by decide +kernel))) rfl
theorem q1313 : (Cond.code ({ cls := "PinEngines", name := "stall", desc := "(I)I" } : Jvm.MethodName) prog_1_method_19_code (2 : Nat) (Option.some Jvm.ClassFile.FieldType.int)) ∈ tb := tb_of (lw_c5 (List.mem_of_getElem? (i := 199) (by decide +kernel))) rfl
theorem q1318 : (Cond.instanceMethod ({ cls := "PinEngines", name := "isEnabled", desc := "(I)Z" } : Jvm.MethodName)) ∈ tb := tb_of (lw_c5 (List.mem_of_getElem? (i := 204) (by decide +kernel))) rfl
theorem q1319 : (Cond.selects "PinEngines" ({ cls := "PinEngines", name := "isEnabled", desc := "(I)Z" } : Jvm.MethodName) ({ cls := "PinEngines", name := "isEnabled", desc := "(I)Z" } : Jvm.MethodName)) ∈ tb := tb_of (lw_c5 (List.mem_of_getElem? (i := 205) (by decide +kernel))) rfl
theorem q1320 : (Cond.code ({ cls := "PinEngines", name := "isEnabled", desc := "(I)Z" } : Jvm.MethodName) prog_1_method_20_code (2 : Nat) (Option.some Jvm.ClassFile.FieldType.boolean)) ∈ tb := tb_of (lw_c5 (List.mem_of_getElem? (i := 206) (by decide +kernel))) rfl
theorem q1325 : (Cond.instanceMethod ({ cls := "PinEngines", name := "queueSize", desc := "(IZ)I" } : Jvm.MethodName)) ∈ tb := tb_of (lw_c5 (List.mem_of_getElem? (i := 211) (by decide +kernel))) rfl
theorem q1326 : (Cond.selects "PinEngines" ({ cls := "PinEngines", name := "queueSize", desc := "(IZ)I" } : Jvm.MethodName) ({ cls := "PinEngines", name := "queueSize", desc := "(IZ)I" } : Jvm.MethodName)) ∈ tb := tb_of (lw_c5 (List.mem_of_getElem? (i := 212) (by decide +kernel))) rfl
theorem q1327 : (Cond.code ({ cls := "PinEngines", name := "queueSize", desc := "(IZ)I" } : Jvm.MethodName) prog_1_method_21_code (3 : Nat) (Option.some Jvm.ClassFile.FieldType.int)) ∈ tb := tb_of (lw_c5 (List.mem_of_getElem? (i := 213) (by decide +kernel))) rfl
theorem q1336 : (Cond.instanceMethod ({ cls := "PinEngines", name := "queued", desc := "(IZI)J" } : Jvm.MethodName)) ∈ tb := tb_of (lw_c5 (List.mem_of_getElem? (i := 222) (by decide +kernel))) rfl
theorem q1337 : (Cond.selects "PinEngines" ({ cls := "PinEngines", name := "queued", desc := "(IZI)J" } : Jvm.MethodName) ({ cls := "PinEngines", name := "queued", desc := "(IZI)J" } : Jvm.MethodName)) ∈ tb := tb_of (lw_c5 (List.mem_of_getElem? (i := 223) (by decide +kernel))) rfl
theorem q1338 : (Cond.code ({ cls := "PinEngines", name := "queued", desc := "(IZI)J" } : Jvm.MethodName) prog_1_method_22_code (5 : Nat) (Option.some Jvm.ClassFile.FieldType.long)) ∈ tb := tb_of (lw_c5 (List.mem_of_getElem? (i := 224) (by decide +kernel))) rfl
theorem q1352 : (Cond.instanceMethod ({ cls := "PinEngines", name := "count", desc := "(II)I" } : Jvm.MethodName)) ∈ tb := tb_of (lw_c5 (List.mem_of_getElem? (i := 238) (by decide +kernel))) rfl
theorem q1353 : (Cond.selects "PinEngines" ({ cls := "PinEngines", name := "count", desc := "(II)I" } : Jvm.MethodName) ({ cls := "PinEngines", name := "count", desc := "(II)I" } : Jvm.MethodName)) ∈ tb := tb_of (lw_c5 (List.mem_of_getElem? (i := 239) (by decide +kernel))) rfl
theorem q1354 : (Cond.code ({ cls := "PinEngines", name := "count", desc := "(II)I" } : Jvm.MethodName) prog_1_method_23_code (4 : Nat) (Option.some Jvm.ClassFile.FieldType.int)) ∈ tb := tb_of (lw_c6 (List.mem_of_getElem? (i := 0) (by decide +kernel))) rfl
theorem q1359 : (Cond.instanceMethod ({ cls := "PinEngines", name := "levelAt", desc := "(II)I" } : Jvm.MethodName)) ∈ tb := tb_of (lw_c6 (List.mem_of_getElem? (i := 5) (by decide +kernel))) rfl
theorem q1360 : (Cond.selects "PinEngines" ({ cls := "PinEngines", name := "levelAt", desc := "(II)I" } : Jvm.MethodName) ({ cls := "PinEngines", name := "levelAt", desc := "(II)I" } : Jvm.MethodName)) ∈ tb := tb_of (lw_c6 (List.mem_of_getElem? (i := 6) (by decide +kernel))) rfl
theorem q1361 : (Cond.code ({ cls := "PinEngines", name := "levelAt", desc := "(II)I" } : Jvm.MethodName) prog_1_method_24_code (4 : Nat) (Option.some Jvm.ClassFile.FieldType.int)) ∈ tb := tb_of (lw_c6 (List.mem_of_getElem? (i := 7) (by decide +kernel))) rfl
theorem q1370 : (Cond.instanceMethod ({ cls := "PinEngines", name := "edges", desc := "(I)I" } : Jvm.MethodName)) ∈ tb := tb_of (lw_c6 (List.mem_of_getElem? (i := 16) (by decide +kernel))) rfl
theorem q1371 : (Cond.selects "PinEngines" ({ cls := "PinEngines", name := "edges", desc := "(I)I" } : Jvm.MethodName) ({ cls := "PinEngines", name := "edges", desc := "(I)I" } : Jvm.MethodName)) ∈ tb := tb_of (lw_c6 (List.mem_of_getElem? (i := 17) (by decide +kernel))) rfl
theorem q1372 : (Cond.code ({ cls := "PinEngines", name := "edges", desc := "(I)I" } : Jvm.MethodName) prog_1_method_25_code (2 : Nat) (Option.some Jvm.ClassFile.FieldType.int)) ∈ tb := tb_of (lw_c6 (List.mem_of_getElem? (i := 18) (by decide +kernel))) rfl
theorem q1377 : (Cond.instanceMethod ({ cls := "PinEngines", name := "highTime", desc := "(I)I" } : Jvm.MethodName)) ∈ tb := tb_of (lw_c6 (List.mem_of_getElem? (i := 23) (by decide +kernel))) rfl
theorem q1378 : (Cond.selects "PinEngines" ({ cls := "PinEngines", name := "highTime", desc := "(I)I" } : Jvm.MethodName) ({ cls := "PinEngines", name := "highTime", desc := "(I)I" } : Jvm.MethodName)) ∈ tb := tb_of (lw_c6 (List.mem_of_getElem? (i := 24) (by decide +kernel))) rfl
theorem q1379 : (Cond.code ({ cls := "PinEngines", name := "highTime", desc := "(I)I" } : Jvm.MethodName) prog_1_method_26_code (2 : Nat) (Option.some Jvm.ClassFile.FieldType.int)) ∈ tb := tb_of (lw_c6 (List.mem_of_getElem? (i := 25) (by decide +kernel))) rfl
theorem q1388 : (Cond.instanceMethod ({ cls := "PinEngines", name := "put", desc := "(II)I" } : Jvm.MethodName)) ∈ tb := tb_of (lw_c6 (List.mem_of_getElem? (i := 34) (by decide +kernel))) rfl
theorem q1389 : (Cond.selects "PinEngines" ({ cls := "PinEngines", name := "put", desc := "(II)I" } : Jvm.MethodName) ({ cls := "PinEngines", name := "put", desc := "(II)I" } : Jvm.MethodName)) ∈ tb := tb_of (lw_c6 (List.mem_of_getElem? (i := 35) (by decide +kernel))) rfl
theorem q1390 : (Cond.code ({ cls := "PinEngines", name := "put", desc := "(II)I" } : Jvm.MethodName) prog_1_method_27_code (4 : Nat) (Option.some Jvm.ClassFile.FieldType.int)) ∈ tb := tb_of (lw_c6 (List.mem_of_getElem? (i := 36) (by decide +kernel))) rfl
theorem q1409 : (Cond.instanceMethod ({ cls := "PinEngines", name := "take", desc := "(I)J" } : Jvm.MethodName)) ∈ tb := tb_of (lw_c6 (List.mem_of_getElem? (i := 55) (by decide +kernel))) rfl
theorem q1410 : (Cond.selects "PinEngines" ({ cls := "PinEngines", name := "take", desc := "(I)J" } : Jvm.MethodName) ({ cls := "PinEngines", name := "take", desc := "(I)J" } : Jvm.MethodName)) ∈ tb := tb_of (lw_c6 (List.mem_of_getElem? (i := 56) (by decide +kernel))) rfl
theorem q1411 : (Cond.code ({ cls := "PinEngines", name := "take", desc := "(I)J" } : Jvm.MethodName) prog_1_method_28_code (3 : Nat) (Option.some Jvm.ClassFile.FieldType.long)) ∈ tb := tb_of (lw_c6 (List.mem_of_getElem? (i := 57) (by decide +kernel))) rfl
theorem q1421 : (Cond.instanceMethod ({ cls := "PinEngines", name := "enable", desc := "(IZ)Z" } : Jvm.MethodName)) ∈ tb := tb_of (lw_c6 (List.mem_of_getElem? (i := 67) (by decide +kernel))) rfl
theorem q1422 : (Cond.selects "PinEngines" ({ cls := "PinEngines", name := "enable", desc := "(IZ)Z" } : Jvm.MethodName) ({ cls := "PinEngines", name := "enable", desc := "(IZ)Z" } : Jvm.MethodName)) ∈ tb := tb_of (lw_c6 (List.mem_of_getElem? (i := 68) (by decide +kernel))) rfl
theorem q1423 : (Cond.code ({ cls := "PinEngines", name := "enable", desc := "(IZ)Z" } : Jvm.MethodName) prog_1_method_29_code (5 : Nat) (Option.some Jvm.ClassFile.FieldType.boolean)) ∈ tb := tb_of (lw_c6 (List.mem_of_getElem? (i := 69) (by decide +kernel))) rfl
theorem q1428 : (Cond.instanceMethod ({ cls := "PinEngines", name := "restart", desc := "(I)I" } : Jvm.MethodName)) ∈ tb := tb_of (lw_c6 (List.mem_of_getElem? (i := 74) (by decide +kernel))) rfl
theorem q1429 : (Cond.selects "PinEngines" ({ cls := "PinEngines", name := "restart", desc := "(I)I" } : Jvm.MethodName) ({ cls := "PinEngines", name := "restart", desc := "(I)I" } : Jvm.MethodName)) ∈ tb := tb_of (lw_c6 (List.mem_of_getElem? (i := 75) (by decide +kernel))) rfl
theorem q1430 : (Cond.code ({ cls := "PinEngines", name := "restart", desc := "(I)I" } : Jvm.MethodName) prog_1_method_30_code (4 : Nat) (Option.some Jvm.ClassFile.FieldType.int)) ∈ tb := tb_of (lw_c6 (List.mem_of_getElem? (i := 76) (by decide +kernel))) rfl
theorem q1436 : (Cond.instanceMethod ({ cls := "PinEngines", name := "drive", desc := "(II)I" } : Jvm.MethodName)) ∈ tb := tb_of (lw_c6 (List.mem_of_getElem? (i := 82) (by decide +kernel))) rfl
theorem q1437 : (Cond.selects "PinEngines" ({ cls := "PinEngines", name := "drive", desc := "(II)I" } : Jvm.MethodName) ({ cls := "PinEngines", name := "drive", desc := "(II)I" } : Jvm.MethodName)) ∈ tb := tb_of (lw_c6 (List.mem_of_getElem? (i := 83) (by decide +kernel))) rfl
theorem q1438 : (Cond.code ({ cls := "PinEngines", name := "drive", desc := "(II)I" } : Jvm.MethodName) prog_1_method_31_code (3 : Nat) (Option.some Jvm.ClassFile.FieldType.int)) ∈ tb := tb_of (lw_c6 (List.mem_of_getElem? (i := 84) (by decide +kernel))) rfl
theorem q1450 : (Cond.instanceMethod ({ cls := "PinEngines", name := "schedule", desc := "(III)I" } : Jvm.MethodName)) ∈ tb := tb_of (lw_c6 (List.mem_of_getElem? (i := 96) (by decide +kernel))) rfl
theorem q1451 : (Cond.selects "PinEngines" ({ cls := "PinEngines", name := "schedule", desc := "(III)I" } : Jvm.MethodName) ({ cls := "PinEngines", name := "schedule", desc := "(III)I" } : Jvm.MethodName)) ∈ tb := tb_of (lw_c6 (List.mem_of_getElem? (i := 97) (by decide +kernel))) rfl
theorem q1452 : (Cond.code ({ cls := "PinEngines", name := "schedule", desc := "(III)I" } : Jvm.MethodName) prog_1_method_32_code (4 : Nat) (Option.some Jvm.ClassFile.FieldType.int)) ∈ tb := tb_of (lw_c6 (List.mem_of_getElem? (i := 98) (by decide +kernel))) rfl
theorem q1462 : (Cond.instanceMethod ({ cls := "PinEngines", name := "poke", desc := "(II)I" } : Jvm.MethodName)) ∈ tb := tb_of (lw_c6 (List.mem_of_getElem? (i := 108) (by decide +kernel))) rfl
theorem q1463 : (Cond.selects "PinEngines" ({ cls := "PinEngines", name := "poke", desc := "(II)I" } : Jvm.MethodName) ({ cls := "PinEngines", name := "poke", desc := "(II)I" } : Jvm.MethodName)) ∈ tb := tb_of (lw_c6 (List.mem_of_getElem? (i := 109) (by decide +kernel))) rfl
theorem q1464 : (Cond.code ({ cls := "PinEngines", name := "poke", desc := "(II)I" } : Jvm.MethodName) prog_1_method_33_code (4 : Nat) (Option.some Jvm.ClassFile.FieldType.int)) ∈ tb := tb_of (lw_c6 (List.mem_of_getElem? (i := 110) (by decide +kernel))) rfl
theorem q1469 : (Cond.instanceMethod ({ cls := "PinEngines", name := "run", desc := "(I)I" } : Jvm.MethodName)) ∈ tb := tb_of (lw_c6 (List.mem_of_getElem? (i := 115) (by decide +kernel))) rfl
theorem q1470 : (Cond.selects "PinEngines" ({ cls := "PinEngines", name := "run", desc := "(I)I" } : Jvm.MethodName) ({ cls := "PinEngines", name := "run", desc := "(I)I" } : Jvm.MethodName)) ∈ tb := tb_of (lw_c6 (List.mem_of_getElem? (i := 116) (by decide +kernel))) rfl
theorem q1471 : (Cond.code ({ cls := "PinEngines", name := "run", desc := "(I)I" } : Jvm.MethodName) prog_1_method_34_code (4 : Nat) (Option.some Jvm.ClassFile.FieldType.int)) ∈ tb := tb_of (lw_c6 (List.mem_of_getElem? (i := 117) (by decide +kernel))) rfl
theorem q1651 : (Cond.instanceMethod ({ cls := "PinEngines", name := "cyclesUntil", desc := "(III)I" } : Jvm.MethodName)) ∈ tb := tb_of (lw_c7 (List.mem_of_getElem? (i := 57) (by decide +kernel))) rfl
theorem q1652 : (Cond.selects "PinEngines" ({ cls := "PinEngines", name := "cyclesUntil", desc := "(III)I" } : Jvm.MethodName) ({ cls := "PinEngines", name := "cyclesUntil", desc := "(III)I" } : Jvm.MethodName)) ∈ tb := tb_of (lw_c7 (List.mem_of_getElem? (i := 58) (by decide +kernel))) rfl
theorem q1653 : (Cond.code ({ cls := "PinEngines", name := "cyclesUntil", desc := "(III)I" } : Jvm.MethodName) prog_1_method_35_code (5 : Nat) (Option.some Jvm.ClassFile.FieldType.int)) ∈ tb := tb_of (lw_c7 (List.mem_of_getElem? (i := 59) (by decide +kernel))) rfl
theorem q1661 : (Cond.instanceMethod ({ cls := "PinEngines", name := "cyclesTo", desc := "(III)I" } : Jvm.MethodName)) ∈ tb := tb_of (lw_c7 (List.mem_of_getElem? (i := 67) (by decide +kernel))) rfl
theorem q1662 : (Cond.selects "PinEngines" ({ cls := "PinEngines", name := "cyclesTo", desc := "(III)I" } : Jvm.MethodName) ({ cls := "PinEngines", name := "cyclesTo", desc := "(III)I" } : Jvm.MethodName)) ∈ tb := tb_of (lw_c7 (List.mem_of_getElem? (i := 68) (by decide +kernel))) rfl
theorem q1663 : (Cond.code ({ cls := "PinEngines", name := "cyclesTo", desc := "(III)I" } : Jvm.MethodName) prog_1_method_36_code (5 : Nat) (Option.some Jvm.ClassFile.FieldType.int)) ∈ tb := tb_of (lw_c7 (List.mem_of_getElem? (i := 69) (by decide +kernel))) rfl
theorem q1672 : (Cond.instanceMethod ({ cls := "PinEngines", name := "period", desc := "(II)I" } : Jvm.MethodName)) ∈ tb := tb_of (lw_c7 (List.mem_of_getElem? (i := 78) (by decide +kernel))) rfl
theorem q1673 : (Cond.selects "PinEngines" ({ cls := "PinEngines", name := "period", desc := "(II)I" } : Jvm.MethodName) ({ cls := "PinEngines", name := "period", desc := "(II)I" } : Jvm.MethodName)) ∈ tb := tb_of (lw_c7 (List.mem_of_getElem? (i := 79) (by decide +kernel))) rfl
theorem q1674 : (Cond.code ({ cls := "PinEngines", name := "period", desc := "(II)I" } : Jvm.MethodName) prog_1_method_37_code (7 : Nat) (Option.some Jvm.ClassFile.FieldType.int)) ∈ tb := tb_of (lw_c7 (List.mem_of_getElem? (i := 80) (by decide +kernel))) rfl
theorem q1679 : (Cond.instanceMethod ({ cls := "PinEngines", name := "stuck", desc := "(I)I" } : Jvm.MethodName)) ∈ tb := tb_of (lw_c7 (List.mem_of_getElem? (i := 85) (by decide +kernel))) rfl
theorem q1680 : (Cond.selects "PinEngines" ({ cls := "PinEngines", name := "stuck", desc := "(I)I" } : Jvm.MethodName) ({ cls := "PinEngines", name := "stuck", desc := "(I)I" } : Jvm.MethodName)) ∈ tb := tb_of (lw_c7 (List.mem_of_getElem? (i := 86) (by decide +kernel))) rfl
theorem q1681 : (Cond.code ({ cls := "PinEngines", name := "stuck", desc := "(I)I" } : Jvm.MethodName) prog_1_method_38_code (4 : Nat) (Option.some Jvm.ClassFile.FieldType.int)) ∈ tb := tb_of (lw_c7 (List.mem_of_getElem? (i := 87) (by decide +kernel))) rfl
theorem q1690 : (Cond.instanceMethod ({ cls := "PinEngines", name := "divider", desc := "(II)I" } : Jvm.MethodName)) ∈ tb := tb_of (lw_c7 (List.mem_of_getElem? (i := 96) (by decide +kernel))) rfl
theorem q1691 : (Cond.selects "PinEngines" ({ cls := "PinEngines", name := "divider", desc := "(II)I" } : Jvm.MethodName) ({ cls := "PinEngines", name := "divider", desc := "(II)I" } : Jvm.MethodName)) ∈ tb := tb_of (lw_c7 (List.mem_of_getElem? (i := 97) (by decide +kernel))) rfl
theorem q1692 : (Cond.code ({ cls := "PinEngines", name := "divider", desc := "(II)I" } : Jvm.MethodName) prog_1_method_39_code (5 : Nat) (Option.some Jvm.ClassFile.FieldType.int)) ∈ tb := tb_of (lw_c7 (List.mem_of_getElem? (i := 98) (by decide +kernel))) rfl
theorem q1942 : (Cond.instanceMethod ({ cls := "PinEngines", name := "query", desc := "(I)I" } : Jvm.MethodName)) ∈ tb := tb_of (lw_c8 (List.mem_of_getElem? (i := 108) (by decide +kernel))) rfl
theorem q1943 : (Cond.selects "PinEngines" ({ cls := "PinEngines", name := "query", desc := "(I)I" } : Jvm.MethodName) ({ cls := "PinEngines", name := "query", desc := "(I)I" } : Jvm.MethodName)) ∈ tb := tb_of (lw_c8 (List.mem_of_getElem? (i := 109) (by decide +kernel))) rfl
theorem q1944 : (Cond.code ({ cls := "PinEngines", name := "query", desc := "(I)I" } : Jvm.MethodName) prog_1_method_46_code (4 : Nat) (Option.some Jvm.ClassFile.FieldType.int)) ∈ tb := tb_of (lw_c8 (List.mem_of_getElem? (i := 110) (by decide +kernel))) rfl
theorem mmX12_load : MM yX12_load cX12_load 3 (some .int) 1 := ⟨q155, q902, by decide +kernel, by decide +kernel, by decide +kernel⟩
theorem miX12_load : MI yX12_load := ⟨q900, q901⟩
theorem ag31 {vv : Nat} (V : 2 ≤ vv) : AG vv 31 1 3 (fun _ _ => 1) (some none) := kk31 V
theorem mmX12_level : MM yX12_level cX12_level 2 (some .int) 1 := ⟨q155, q1216, by decide +kernel, by decide +kernel, by decide +kernel⟩
theorem miX12_level : MI yX12_level := ⟨q1214, q1215⟩
theorem mmX12_latch : MM yX12_latch cX12_latch 2 (some .int) 1 := ⟨q155, q1242, by decide +kernel, by decide +kernel, by decide +kernel⟩
theorem miX12_latch : MI yX12_latch := ⟨q1240, q1241⟩
theorem mmX12_isOutput : MM yX12_isOutput cX12_isOutput 2 (some .boolean) 1 := ⟨q155, q1249, by decide +kernel, by decide +kernel, by decide +kernel⟩
theorem miX12_isOutput : MI yX12_isOutput := ⟨q1247, q1248⟩
theorem mmX12_flag : MM yX12_flag cX12_flag 2 (some .int) 1 := ⟨q155, q1256, by decide +kernel, by decide +kernel, by decide +kernel⟩
theorem miX12_flag : MI yX12_flag := ⟨q1254, q1255⟩
theorem mmX12_memory : MM yX12_memory cX12_memory 2 (some .int) 1 := ⟨q155, q1263, by decide +kernel, by decide +kernel, by decide +kernel⟩
theorem miX12_memory : MI yX12_memory := ⟨q1261, q1262⟩
theorem mmX12_pc : MM yX12_pc cX12_pc 2 (some .int) 1 := ⟨q155, q1273, by decide +kernel, by decide +kernel, by decide +kernel⟩
theorem miX12_pc : MI yX12_pc := ⟨q1271, q1272⟩
theorem mmX12_register : MM yX12_register cX12_register 4 (some .int) 2 := ⟨q155, q1285, by decide +kernel, by decide +kernel, by decide +kernel⟩
theorem miX12_register : MI yX12_register := ⟨q1283, q1284⟩
theorem mmX12_fill : MM yX12_fill cX12_fill 2 (some .int) 1 := ⟨q155, q1292, by decide +kernel, by decide +kernel, by decide +kernel⟩
theorem miX12_fill : MI yX12_fill := ⟨q1290, q1291⟩
theorem mmX12_spent : MM yX12_spent cX12_spent 2 (some .int) 1 := ⟨q155, q1299, by decide +kernel, by decide +kernel, by decide +kernel⟩
theorem miX12_spent : MI yX12_spent := ⟨q1297, q1298⟩
theorem mmX12_delayLeft : MM yX12_delayLeft cX12_delayLeft 2 (some .int) 1 := ⟨q155, q1306, by decide +kernel, by decide +kernel, by decide +kernel⟩
theorem miX12_delayLeft : MI yX12_delayLeft := ⟨q1304, q1305⟩
theorem mmX12_stall : MM yX12_stall cX12_stall 2 (some .int) 1 := ⟨q155, q1313, by decide +kernel, by decide +kernel, by decide +kernel⟩
theorem miX12_stall : MI yX12_stall := ⟨q1311, q1312⟩
theorem mmX12_isEnabled : MM yX12_isEnabled cX12_isEnabled 2 (some .boolean) 1 := ⟨q155, q1320, by decide +kernel, by decide +kernel, by decide +kernel⟩
theorem miX12_isEnabled : MI yX12_isEnabled := ⟨q1318, q1319⟩
theorem mmX12_queueSize : MM yX12_queueSize cX12_queueSize 3 (some .int) 2 := ⟨q155, q1327, by decide +kernel, by decide +kernel, by decide +kernel⟩
theorem miX12_queueSize : MI yX12_queueSize := ⟨q1325, q1326⟩
theorem mmX12_queued : MM yX12_queued cX12_queued 5 (some .long) 3 := ⟨q155, q1338, by decide +kernel, by decide +kernel, by decide +kernel⟩
theorem miX12_queued : MI yX12_queued := ⟨q1336, q1337⟩
theorem mmX12_count : MM yX12_count cX12_count 4 (some .int) 2 := ⟨q155, q1354, by decide +kernel, by decide +kernel, by decide +kernel⟩
theorem miX12_count : MI yX12_count := ⟨q1352, q1353⟩
theorem mmX12_levelAt : MM yX12_levelAt cX12_levelAt 4 (some .int) 2 := ⟨q155, q1361, by decide +kernel, by decide +kernel, by decide +kernel⟩
theorem miX12_levelAt : MI yX12_levelAt := ⟨q1359, q1360⟩
theorem mmX12_edges : MM yX12_edges cX12_edges 2 (some .int) 1 := ⟨q155, q1372, by decide +kernel, by decide +kernel, by decide +kernel⟩
theorem miX12_edges : MI yX12_edges := ⟨q1370, q1371⟩
theorem mmX12_highTime : MM yX12_highTime cX12_highTime 2 (some .int) 1 := ⟨q155, q1379, by decide +kernel, by decide +kernel, by decide +kernel⟩
theorem miX12_highTime : MI yX12_highTime := ⟨q1377, q1378⟩
theorem mmX12_put : MM yX12_put cX12_put 4 (some .int) 2 := ⟨q155, q1390, by decide +kernel, by decide +kernel, by decide +kernel⟩
theorem miX12_put : MI yX12_put := ⟨q1388, q1389⟩
theorem mmX12_take : MM yX12_take cX12_take 3 (some .long) 1 := ⟨q155, q1411, by decide +kernel, by decide +kernel, by decide +kernel⟩
theorem miX12_take : MI yX12_take := ⟨q1409, q1410⟩
theorem mmX12_enable : MM yX12_enable cX12_enable 5 (some .boolean) 2 := ⟨q155, q1423, by decide +kernel, by decide +kernel, by decide +kernel⟩
theorem miX12_enable : MI yX12_enable := ⟨q1421, q1422⟩
theorem mmX12_restart : MM yX12_restart cX12_restart 4 (some .int) 1 := ⟨q155, q1430, by decide +kernel, by decide +kernel, by decide +kernel⟩
theorem miX12_restart : MI yX12_restart := ⟨q1428, q1429⟩
theorem mmX12_drive : MM yX12_drive cX12_drive 3 (some .int) 2 := ⟨q155, q1438, by decide +kernel, by decide +kernel, by decide +kernel⟩
theorem miX12_drive : MI yX12_drive := ⟨q1436, q1437⟩
theorem mmX12_schedule : MM yX12_schedule cX12_schedule 4 (some .int) 3 := ⟨q155, q1452, by decide +kernel, by decide +kernel, by decide +kernel⟩
theorem miX12_schedule : MI yX12_schedule := ⟨q1450, q1451⟩
theorem mmX12_poke : MM yX12_poke cX12_poke 4 (some .int) 2 := ⟨q155, q1464, by decide +kernel, by decide +kernel, by decide +kernel⟩
theorem miX12_poke : MI yX12_poke := ⟨q1462, q1463⟩
theorem mmX12_run : MM yX12_run cX12_run 4 (some .int) 1 := ⟨q155, q1471, by decide +kernel, by decide +kernel, by decide +kernel⟩
theorem miX12_run : MI yX12_run := ⟨q1469, q1470⟩
theorem mmX12_cyclesUntil : MM yX12_cyclesUntil cX12_cyclesUntil 5 (some .int) 3 := ⟨q155, q1653, by decide +kernel, by decide +kernel, by decide +kernel⟩
theorem miX12_cyclesUntil : MI yX12_cyclesUntil := ⟨q1651, q1652⟩
theorem mmX12_cyclesTo : MM yX12_cyclesTo cX12_cyclesTo 5 (some .int) 3 := ⟨q155, q1663, by decide +kernel, by decide +kernel, by decide +kernel⟩
theorem miX12_cyclesTo : MI yX12_cyclesTo := ⟨q1661, q1662⟩
theorem mmX12_period : MM yX12_period cX12_period 7 (some .int) 2 := ⟨q155, q1674, by decide +kernel, by decide +kernel, by decide +kernel⟩
theorem miX12_period : MI yX12_period := ⟨q1672, q1673⟩
theorem mmX12_stuck : MM yX12_stuck cX12_stuck 4 (some .int) 1 := ⟨q155, q1681, by decide +kernel, by decide +kernel, by decide +kernel⟩
theorem miX12_stuck : MI yX12_stuck := ⟨q1679, q1680⟩
theorem mmX12_divider : MM yX12_divider cX12_divider 5 (some .int) 2 := ⟨q155, q1692, by decide +kernel, by decide +kernel, by decide +kernel⟩
theorem miX12_divider : MI yX12_divider := ⟨q1690, q1691⟩
theorem mmX12_query : MM yX12_query cX12_query 4 (some .int) 1 := ⟨q155, q1944, by decide +kernel, by decide +kernel, by decide +kernel⟩
theorem miX12_query : MI yX12_query := ⟨q1942, q1943⟩
