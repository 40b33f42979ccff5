theorem q1482 : Cond.methodLink "PinEngines$Simulator" (41 : Nat) ({ cls := "PinEngines$Simulator", name := "tickingEngines", desc := "()I" } : Jvm.MethodName) ∈ tb := tb_at 1482 (by decide +kernel) rfl
theorem q1484 : Cond.instanceMethod ({ cls := "PinEngines$Simulator", name := "tickingEngines", desc := "()I" } : Jvm.MethodName) ∈ tb := tb_at 1484 (by decide +kernel) rfl
theorem q1485 : Cond.code ({ cls := "PinEngines$Simulator", name := "tickingEngines", desc := "()I" } : Jvm.MethodName) prog_11_method_3_code (4 : Nat) (Option.some Jvm.ClassFile.FieldType.int) ∈ tb := tb_at 1485 (by decide +kernel) rfl
theorem q1486 : Cond.methodLink "PinEngines$Simulator" (71 : Nat) ({ cls := "PinEngines$Engine", name := "countCycle", desc := "(LPinEngines$Setup;)Z" } : Jvm.MethodName) ∈ tb := tb_at 1486 (by decide +kernel) rfl
theorem q1487 : Cond.instanceMethod ({ cls := "PinEngines$Engine", name := "countCycle", desc := "(LPinEngines$Setup;)Z" } : Jvm.MethodName) ∈ tb := tb_at 1487 (by decide +kernel) rfl
theorem q1488 : Cond.selects "PinEngines$Engine" ({ cls := "PinEngines$Engine", name := "countCycle", desc := "(LPinEngines$Setup;)Z" } : Jvm.MethodName) ({ cls := "PinEngines$Engine", name := "countCycle", desc := "(LPinEngines$Setup;)Z" } : Jvm.MethodName) ∈ tb := tb_at 1488 (by decide +kernel) rfl
theorem q1489 : Cond.code ({ cls := "PinEngines$Engine", name := "countCycle", desc := "(LPinEngines$Setup;)Z" } : Jvm.MethodName) prog_3_method_5_code (2 : Nat) (Option.some Jvm.ClassFile.FieldType.boolean) ∈ tb := tb_at 1489 (by decide +kernel) rfl
theorem q1490 : Cond.methodLink "PinEngines$Simulator" (44 : Nat) ({ cls := "PinEngines$Simulator", name := "grantPort", desc := "(I)I" } : Jvm.MethodName) ∈ tb := tb_at 1490 (by decide +kernel) rfl
theorem q1492 : Cond.instanceMethod ({ cls := "PinEngines$Simulator", name := "grantPort", desc := "(I)I" } : Jvm.MethodName) ∈ tb := tb_at 1492 (by decide +kernel) rfl
theorem q1493 : Cond.code ({ cls := "PinEngines$Simulator", name := "grantPort", desc := "(I)I" } : Jvm.MethodName) prog_11_method_4_code (4 : Nat) (Option.some Jvm.ClassFile.FieldType.int) ∈ tb := tb_at 1493 (by decide +kernel) rfl
theorem q1494 : Cond.methodLink "PinEngines$Simulator" (80 : Nat) ({ cls := "PinEngines$Simulator", name := "wantsPort", desc := "(LPinEngines$Engine;)Z" } : Jvm.MethodName) ∈ tb := tb_at 1494 (by decide +kernel) rfl
theorem q1496 : Cond.instanceMethod ({ cls := "PinEngines$Simulator", name := "wantsPort", desc := "(LPinEngines$Engine;)Z" } : Jvm.MethodName) ∈ tb := tb_at 1496 (by decide +kernel) rfl
theorem q1497 : Cond.code ({ cls := "PinEngines$Simulator", name := "wantsPort", desc := "(LPinEngines$Engine;)Z" } : Jvm.MethodName) prog_11_method_5_code (2 : Nat) (Option.some Jvm.ClassFile.FieldType.boolean) ∈ tb := tb_at 1497 (by decide +kernel) rfl
theorem q1498 : Cond.methodLink "PinEngines$Simulator" (90 : Nat) ({ cls := "PinEngines$Program", name := "instructionAt", desc := "(I)LPinEngines$Instruction;" } : Jvm.MethodName) ∈ tb := tb_at 1498 (by decide +kernel) rfl
theorem q1499 : Cond.instanceMethod ({ cls := "PinEngines$Program", name := "instructionAt", desc := "(I)LPinEngines$Instruction;" } : Jvm.MethodName) ∈ tb := tb_at 1499 (by decide +kernel) rfl
theorem q1500 : Cond.selects "PinEngines$Program" ({ cls := "PinEngines$Program", name := "instructionAt", desc := "(I)LPinEngines$Instruction;" } : Jvm.MethodName) ({ cls := "PinEngines$Program", name := "instructionAt", desc := "(I)LPinEngines$Instruction;" } : Jvm.MethodName) ∈ tb := tb_at 1500 (by decide +kernel) rfl
theorem q1501 : Cond.code ({ cls := "PinEngines$Program", name := "instructionAt", desc := "(I)LPinEngines$Instruction;" } : Jvm.MethodName) prog_6_method_5_code (2 : Nat) (Option.some (Jvm.ClassFile.FieldType.object "PinEngines$Instruction")) ∈ tb := tb_at 1501 (by decide +kernel) rfl
theorem q1502 : Cond.methodLink "PinEngines$Simulator" (94 : Nat) ({ cls := "PinEngines$Instruction", name := "usesPort", desc := "()Z" } : Jvm.MethodName) ∈ tb := tb_at 1502 (by decide +kernel) rfl
theorem q1503 : Cond.instanceMethod ({ cls := "PinEngines$Instruction", name := "usesPort", desc := "()Z" } : Jvm.MethodName) ∈ tb := tb_at 1503 (by decide +kernel) rfl
theorem q1504 : Cond.selects "PinEngines$Instruction" ({ cls := "PinEngines$Instruction", name := "usesPort", desc := "()Z" } : Jvm.MethodName) ({ cls := "PinEngines$Instruction", name := "usesPort", desc := "()Z" } : Jvm.MethodName) ∈ tb := tb_at 1504 (by decide +kernel) rfl
theorem q1505 : Cond.code ({ cls := "PinEngines$Instruction", name := "usesPort", desc := "()Z" } : Jvm.MethodName) prog_4_method_3_code (1 : Nat) (Option.some Jvm.ClassFile.FieldType.boolean) ∈ tb := tb_at 1505 (by decide +kernel) rfl
theorem q1506 : Cond.fieldLink "PinEngines$Instruction" (42 : Nat) "PinEngines$Symbol" "LOAD" "LPinEngines$Symbol;" ∈ tb := tb_at 1506 (by decide +kernel) rfl
theorem q1508 : Cond.fieldLink "PinEngines$Instruction" (45 : Nat) "PinEngines$Symbol" "STORE" "LPinEngines$Symbol;" ∈ tb := tb_at 1508 (by decide +kernel) rfl
theorem q1510 : Cond.methodLink "PinEngines$Simulator" (58 : Nat) ({ cls := "PinEngines$Simulator", name := "doTick", desc := "(LPinEngines$Engine;LPinEngines$Setup;Z)Z" } : Jvm.MethodName) ∈ tb := tb_at 1510 (by decide +kernel) rfl
theorem q1512 : Cond.instanceMethod ({ cls := "PinEngines$Simulator", name := "doTick", desc := "(LPinEngines$Engine;LPinEngines$Setup;Z)Z" } : Jvm.MethodName) ∈ tb := tb_at 1512 (by decide +kernel) rfl
theorem q1513 : Cond.code ({ cls := "PinEngines$Simulator", name := "doTick", desc := "(LPinEngines$Engine;LPinEngines$Setup;Z)Z" } : Jvm.MethodName) prog_11_method_6_code (7 : Nat) (Option.some Jvm.ClassFile.FieldType.boolean) ∈ tb := tb_at 1513 (by decide +kernel) rfl
theorem q1514 : Cond.methodLink "PinEngines$Simulator" (107 : Nat) ({ cls := "PinEngines$Program", name := "addressAfter", desc := "(ILPinEngines$Setup;)I" } : Jvm.MethodName) ∈ tb := tb_at 1514 (by decide +kernel) rfl
theorem q1515 : Cond.instanceMethod ({ cls := "PinEngines$Program", name := "addressAfter", desc := "(ILPinEngines$Setup;)I" } : Jvm.MethodName) ∈ tb := tb_at 1515 (by decide +kernel) rfl
theorem q1516 : Cond.selects "PinEngines$Program" ({ cls := "PinEngines$Program", name := "addressAfter", desc := "(ILPinEngines$Setup;)I" } : Jvm.MethodName) ({ cls := "PinEngines$Program", name := "addressAfter", desc := "(ILPinEngines$Setup;)I" } : Jvm.MethodName) ∈ tb := tb_at 1516 (by decide +kernel) rfl
theorem q1517 : Cond.code ({ cls := "PinEngines$Program", name := "addressAfter", desc := "(ILPinEngines$Setup;)I" } : Jvm.MethodName) prog_6_method_8_code (3 : Nat) (Option.some Jvm.ClassFile.FieldType.int) ∈ tb := tb_at 1517 (by decide +kernel) rfl
theorem q1518 : Cond.methodLink "PinEngines$Simulator" (114 : Nat) ({ cls := "PinEngines$Simulator", name := "access", desc := "(LPinEngines$Instruction;LPinEngines$Engine;Z)I" } : Jvm.MethodName) ∈ tb := tb_at 1518 (by decide +kernel) rfl
theorem q1520 : Cond.instanceMethod ({ cls := "PinEngines$Simulator", name := "access", desc := "(LPinEngines$Instruction;LPinEngines$Engine;Z)I" } : Jvm.MethodName) ∈ tb := tb_at 1520 (by decide +kernel) rfl
theorem q1521 : Cond.code ({ cls := "PinEngines$Simulator", name := "access", desc := "(LPinEngines$Instruction;LPinEngines$Engine;Z)I" } : Jvm.MethodName) prog_11_method_16_code (5 : Nat) (Option.some Jvm.ClassFile.FieldType.int) ∈ tb := tb_at 1521 (by decide +kernel) rfl
theorem q1522 : Cond.methodLink "PinEngines$Simulator" (310 : Nat) ({ cls := "PinEngines$Simulator", name := "placeOf", desc := "(LPinEngines$Instruction;LPinEngines$Engine;)I" } : Jvm.MethodName) ∈ tb := tb_at 1522 (by decide +kernel) rfl
theorem q1523 : Cond.static ({ cls := "PinEngines$Simulator", name := "placeOf", desc := "(LPinEngines$Instruction;LPinEngines$Engine;)I" } : Jvm.MethodName) ∈ tb := tb_at 1523 (by decide +kernel) rfl
theorem q1524 : Cond.code ({ cls := "PinEngines$Simulator", name := "placeOf", desc := "(LPinEngines$Instruction;LPinEngines$Engine;)I" } : Jvm.MethodName) prog_11_method_17_code (2 : Nat) (Option.some Jvm.ClassFile.FieldType.int) ∈ tb := tb_at 1524 (by decide +kernel) rfl
theorem q1525 : Cond.fieldLink "PinEngines$Simulator" (323 : Nat) "PinEngines$Symbol" "X" "LPinEngines$Symbol;" ∈ tb := tb_at 1525 (by decide +kernel) rfl
theorem q1527 : Cond.fieldLink "PinEngines$Simulator" (326 : Nat) "PinEngines$Symbol" "Y" "LPinEngines$Symbol;" ∈ tb := tb_at 1527 (by decide +kernel) rfl
theorem q1529 : Cond.fieldLink "PinEngines$Simulator" (313 : Nat) "PinEngines$Symbol" "STORE" "LPinEngines$Symbol;" ∈ tb := tb_at 1529 (by decide +kernel) rfl
theorem q1530 : Cond.methodLink "PinEngines$Simulator" (319 : Nat) ({ cls := "PinEngines$Simulator", name := "storedWord", desc := "(LPinEngines$Symbol;LPinEngines$Engine;)I" } : Jvm.MethodName) ∈ tb := tb_at 1530 (by decide +kernel) rfl
theorem q1531 : Cond.static ({ cls := "PinEngines$Simulator", name := "storedWord", desc := "(LPinEngines$Symbol;LPinEngines$Engine;)I" } : Jvm.MethodName) ∈ tb := tb_at 1531 (by decide +kernel) rfl
theorem q1532 : Cond.code ({ cls := "PinEngines$Simulator", name := "storedWord", desc := "(LPinEngines$Symbol;LPinEngines$Engine;)I" } : Jvm.MethodName) prog_11_method_18_code (2 : Nat) (Option.some Jvm.ClassFile.FieldType.int) ∈ tb := tb_at 1532 (by decide +kernel) rfl
theorem q1533 : Cond.methodLink "PinEngines$Simulator" (291 : Nat) ({ cls := "PinEngines$Engine", name := "setOsr", desc := "(I)V" } : Jvm.MethodName) ∈ tb := tb_at 1533 (by decide +kernel) rfl
theorem q1534 : Cond.instanceMethod ({ cls := "PinEngines$Engine", name := "setOsr", desc := "(I)V" } : Jvm.MethodName) ∈ tb := tb_at 1534 (by decide +kernel) rfl
theorem q1535 : Cond.selects "PinEngines$Engine" ({ cls := "PinEngines$Engine", name := "setOsr", desc := "(I)V" } : Jvm.MethodName) ({ cls := "PinEngines$Engine", name := "setOsr", desc := "(I)V" } : Jvm.MethodName) ∈ tb := tb_at 1535 (by decide +kernel) rfl
theorem q1536 : Cond.code ({ cls := "PinEngines$Engine", name := "setOsr", desc := "(I)V" } : Jvm.MethodName) prog_3_method_7_code (2 : Nat) (Option.none : Option Jvm.ClassFile.FieldType) ∈ tb := tb_at 1536 (by decide +kernel) rfl
theorem q1537 : Cond.methodLink "PinEngines$Simulator" (118 : Nat) ({ cls := "PinEngines$Simulator", name := "execute", desc := "(LPinEngines$Instruction;LPinEngines$Engine;LPinEngines$Setup;)I" } : Jvm.MethodName) ∈ tb := tb_at 1537 (by decide +kernel) rfl
theorem q1539 : Cond.instanceMethod ({ cls := "PinEngines$Simulator", name := "execute", desc := "(LPinEngines$Instruction;LPinEngines$Engine;LPinEngines$Setup;)I" } : Jvm.MethodName) ∈ tb := tb_at 1539 (by decide +kernel) rfl
theorem q1540 : Cond.code ({ cls := "PinEngines$Simulator", name := "execute", desc := "(LPinEngines$Instruction;LPinEngines$Engine;LPinEngines$Setup;)I" } : Jvm.MethodName) prog_11_method_7_code (4 : Nat) (Option.some Jvm.ClassFile.FieldType.int) ∈ tb := tb_at 1540 (by decide +kernel) rfl
theorem q1541 : Cond.fieldLink "PinEngines$Simulator" (140 : Nat) "PinEngines$1" "$SwitchMap$PinEngines$Symbol" "[I" ∈ tb := tb_at 1541 (by decide +kernel) rfl
theorem q1542 : Cond.methodLink "PinEngines$Simulator" (149 : Nat) ({ cls := "PinEngines$Symbol", name := "ordinal", desc := "()I" } : Jvm.MethodName) ∈ tb := tb_at 1542 (by decide +kernel) rfl
theorem q1543 : Cond.methodLink "PinEngines$Simulator" (157 : Nat) ({ cls := "PinEngines$Simulator", name := "holds", desc := "(LPinEngines$Symbol;LPinEngines$Engine;LPinEngines$Setup;)Z" } : Jvm.MethodName) ∈ tb := tb_at 1543 (by decide +kernel) rfl
theorem q1545 : Cond.instanceMethod ({ cls := "PinEngines$Simulator", name := "holds", desc := "(LPinEngines$Symbol;LPinEngines$Engine;LPinEngines$Setup;)Z" } : Jvm.MethodName) ∈ tb := tb_at 1545 (by decide +kernel) rfl
theorem q1546 : Cond.code ({ cls := "PinEngines$Simulator", name := "holds", desc := "(LPinEngines$Symbol;LPinEngines$Engine;LPinEngines$Setup;)Z" } : Jvm.MethodName) prog_11_method_8_code (4 : Nat) (Option.some Jvm.ClassFile.FieldType.boolean) ∈ tb := tb_at 1546 (by decide +kernel) rfl
theorem q1547 : Cond.methodLink "PinEngines$Simulator" (164 : Nat) ({ cls := "PinEngines$Simulator", name := "awaitLevel", desc := "(LPinEngines$Instruction;LPinEngines$Setup;)I" } : Jvm.MethodName) ∈ tb := tb_at 1547 (by decide +kernel) rfl
theorem q1549 : Cond.instanceMethod ({ cls := "PinEngines$Simulator", name := "awaitLevel", desc := "(LPinEngines$Instruction;LPinEngines$Setup;)I" } : Jvm.MethodName) ∈ tb := tb_at 1549 (by decide +kernel) rfl
theorem q1550 : Cond.code ({ cls := "PinEngines$Simulator", name := "awaitLevel", desc := "(LPinEngines$Instruction;LPinEngines$Setup;)I" } : Jvm.MethodName) prog_11_method_9_code (4 : Nat) (Option.some Jvm.ClassFile.FieldType.int) ∈ tb := tb_at 1550 (by decide +kernel) rfl
theorem q1551 : Cond.fieldLink "PinEngines$Simulator" (210 : Nat) "PinEngines$Symbol" "PIN" "LPinEngines$Symbol;" ∈ tb := tb_at 1551 (by decide +kernel) rfl
theorem q1552 : Cond.methodLink "PinEngines$Simulator" (168 : Nat) ({ cls := "PinEngines$Simulator", name := "shiftIn", desc := "(LPinEngines$Instruction;LPinEngines$Engine;LPinEngines$Setup;)I" } : Jvm.MethodName) ∈ tb := tb_at 1552 (by decide +kernel) rfl
theorem q1554 : Cond.instanceMethod ({ cls := "PinEngines$Simulator", name := "shiftIn", desc := "(LPinEngines$Instruction;LPinEngines$Engine;LPinEngines$Setup;)I" } : Jvm.MethodName) ∈ tb := tb_at 1554 (by decide +kernel) rfl
theorem q1555 : Cond.code ({ cls := "PinEngines$Simulator", name := "shiftIn", desc := "(LPinEngines$Instruction;LPinEngines$Engine;LPinEngines$Setup;)I" } : Jvm.MethodName) prog_11_method_10_code (8 : Nat) (Option.some Jvm.ClassFile.FieldType.int) ∈ tb := tb_at 1555 (by decide +kernel) rfl
theorem q1556 : Cond.methodLink "PinEngines$Simulator" (219 : Nat) ({ cls := "PinEngines$Simulator", name := "sourceWord", desc := "(LPinEngines$Symbol;LPinEngines$Engine;LPinEngines$Setup;)I" } : Jvm.MethodName) ∈ tb := tb_at 1556 (by decide +kernel) rfl
theorem q1558 : Cond.instanceMethod ({ cls := "PinEngines$Simulator", name := "sourceWord", desc := "(LPinEngines$Symbol;LPinEngines$Engine;LPinEngines$Setup;)I" } : Jvm.MethodName) ∈ tb := tb_at 1558 (by decide +kernel) rfl
theorem q1559 : Cond.code ({ cls := "PinEngines$Simulator", name := "sourceWord", desc := "(LPinEngines$Symbol;LPinEngines$Engine;LPinEngines$Setup;)I" } : Jvm.MethodName) prog_11_method_20_code (4 : Nat) (Option.some Jvm.ClassFile.FieldType.int) ∈ tb := tb_at 1559 (by decide +kernel) rfl
theorem q1561 : Cond.methodLink "PinEngines$Simulator" (226 : Nat) ({ cls := "java/lang/Math", name := "min", desc := "(II)I" } : Jvm.MethodName) ∈ tb := tb_at 1561 (by decide +kernel) rfl
theorem q1562 : Cond.methodLink "PinEngines$Simulator" (241 : Nat) ({ cls := "PinEngines$Queue", name := "isFull", desc := "()Z" } : Jvm.MethodName) ∈ tb := tb_at 1562 (by decide +kernel) rfl
theorem q1563 : Cond.methodLink "PinEngines$Simulator" (246 : Nat) ({ cls := "PinEngines$Engine", name := "setIsr", desc := "(II)V" } : Jvm.MethodName) ∈ tb := tb_at 1563 (by decide +kernel) rfl
theorem q1564 : Cond.instanceMethod ({ cls := "PinEngines$Engine", name := "setIsr", desc := "(II)V" } : Jvm.MethodName) ∈ tb := tb_at 1564 (by decide +kernel) rfl
theorem q1565 : Cond.selects "PinEngines$Engine" ({ cls := "PinEngines$Engine", name := "setIsr", desc := "(II)V" } : Jvm.MethodName) ({ cls := "PinEngines$Engine", name := "setIsr", desc := "(II)V" } : Jvm.MethodName) ∈ tb := tb_at 1565 (by decide +kernel) rfl
theorem q1566 : Cond.code ({ cls := "PinEngines$Engine", name := "setIsr", desc := "(II)V" } : Jvm.MethodName) prog_3_method_6_code (3 : Nat) (Option.none : Option Jvm.ClassFile.FieldType) ∈ tb := tb_at 1566 (by decide +kernel) rfl
theorem q1567 : Cond.methodLink "PinEngines$Simulator" (255 : Nat) ({ cls := "PinEngines$Engine", name := "pushIsr", desc := "()V" } : Jvm.MethodName) ∈ tb := tb_at 1567 (by decide +kernel) rfl
theorem q1568 : Cond.instanceMethod ({ cls := "PinEngines$Engine", name := "pushIsr", desc := "()V" } : Jvm.MethodName) ∈ tb := tb_at 1568 (by decide +kernel) rfl
theorem q1569 : Cond.selects "PinEngines$Engine" ({ cls := "PinEngines$Engine", name := "pushIsr", desc := "()V" } : Jvm.MethodName) ({ cls := "PinEngines$Engine", name := "pushIsr", desc := "()V" } : Jvm.MethodName) ∈ tb := tb_at 1569 (by decide +kernel) rfl
theorem q1570 : Cond.code ({ cls := "PinEngines$Engine", name := "pushIsr", desc := "()V" } : Jvm.MethodName) prog_3_method_8_code (1 : Nat) (Option.none : Option Jvm.ClassFile.FieldType) ∈ tb := tb_at 1570 (by decide +kernel) rfl
theorem q1571 : Cond.methodLink "PinEngines$Engine" (93 : Nat) ({ cls := "PinEngines$Queue", name := "append", desc := "(I)V" } : Jvm.MethodName) ∈ tb := tb_at 1571 (by decide +kernel) rfl
theorem q1572 : Cond.methodLink "PinEngines$Engine" (96 : Nat) ({ cls := "PinEngines$Engine", name := "setIsr", desc := "(II)V" } : Jvm.MethodName) ∈ tb := tb_at 1572 (by decide +kernel) rfl
theorem q1573 : Cond.methodLink "PinEngines$Simulator" (171 : Nat) ({ cls := "PinEngines$Simulator", name := "shiftOut", desc := "(LPinEngines$Instruction;LPinEngines$Engine;LPinEngines$Setup;)I" } : Jvm.MethodName) ∈ tb := tb_at 1573 (by decide +kernel) rfl
theorem q1575 : Cond.instanceMethod ({ cls := "PinEngines$Simulator", name := "shiftOut", desc := "(LPinEngines$Instruction;LPinEngines$Engine;LPinEngines$Setup;)I" } : Jvm.MethodName) ∈ tb := tb_at 1575 (by decide +kernel) rfl
theorem q1576 : Cond.code ({ cls := "PinEngines$Simulator", name := "shiftOut", desc := "(LPinEngines$Instruction;LPinEngines$Engine;LPinEngines$Setup;)I" } : Jvm.MethodName) prog_11_method_11_code (6 : Nat) (Option.some Jvm.ClassFile.FieldType.int) ∈ tb := tb_at 1576 (by decide +kernel) rfl
theorem q1577 : Cond.methodLink "PinEngines$Simulator" (267 : Nat) ({ cls := "PinEngines$Engine", name := "pullOsr", desc := "()V" } : Jvm.MethodName) ∈ tb := tb_at 1577 (by decide +kernel) rfl
theorem q1578 : Cond.instanceMethod ({ cls := "PinEngines$Engine", name := "pullOsr", desc := "()V" } : Jvm.MethodName) ∈ tb := tb_at 1578 (by decide +kernel) rfl
theorem q1579 : Cond.selects "PinEngines$Engine" ({ cls := "PinEngines$Engine", name := "pullOsr", desc := "()V" } : Jvm.MethodName) ({ cls := "PinEngines$Engine", name := "pullOsr", desc := "()V" } : Jvm.MethodName) ∈ tb := tb_at 1579 (by decide +kernel) rfl
theorem q1580 : Cond.code ({ cls := "PinEngines$Engine", name := "pullOsr", desc := "()V" } : Jvm.MethodName) prog_3_method_9_code (1 : Nat) (Option.none : Option Jvm.ClassFile.FieldType) ∈ tb := tb_at 1580 (by decide +kernel) rfl
theorem q1581 : Cond.methodLink "PinEngines$Engine" (100 : Nat) ({ cls := "PinEngines$Queue", name := "removeFirst", desc := "()I" } : Jvm.MethodName) ∈ tb := tb_at 1581 (by decide +kernel) rfl
theorem q1582 : Cond.methodLink "PinEngines$Engine" (103 : Nat) ({ cls := "PinEngines$Engine", name := "setOsr", desc := "(I)V" } : Jvm.MethodName) ∈ tb := tb_at 1582 (by decide +kernel) rfl
theorem q1583 : Cond.methodLink "PinEngines$Simulator" (183 : Nat) ({ cls := "PinEngines$Simulator", name := "deliver", desc := "(LPinEngines$Symbol;ILPinEngines$Engine;LPinEngines$Setup;)V" } : Jvm.MethodName) ∈ tb := tb_at 1583 (by decide +kernel) rfl
theorem q1585 : Cond.instanceMethod ({ cls := "PinEngines$Simulator", name := "deliver", desc := "(LPinEngines$Symbol;ILPinEngines$Engine;LPinEngines$Setup;)V" } : Jvm.MethodName) ∈ tb := tb_at 1585 (by decide +kernel) rfl
theorem q1586 : Cond.code ({ cls := "PinEngines$Simulator", name := "deliver", desc := "(LPinEngines$Symbol;ILPinEngines$Engine;LPinEngines$Setup;)V" } : Jvm.MethodName) prog_11_method_21_code (5 : Nat) (Option.none : Option Jvm.ClassFile.FieldType) ∈ tb := tb_at 1586 (by decide +kernel) rfl
theorem q1587 : Cond.methodLink "PinEngines$Simulator" (135 : Nat) ({ cls := "PinEngines$Machine", name := "writeLatches", desc := "(II)V" } : Jvm.MethodName) ∈ tb := tb_at 1587 (by decide +kernel) rfl
theorem q1588 : Cond.instanceMethod ({ cls := "PinEngines$Machine", name := "writeLatches", desc := "(II)V" } : Jvm.MethodName) ∈ tb := tb_at 1588 (by decide +kernel) rfl
theorem q1589 : Cond.selects "PinEngines$Machine" ({ cls := "PinEngines$Machine", name := "writeLatches", desc := "(II)V" } : Jvm.MethodName) ({ cls := "PinEngines$Machine", name := "writeLatches", desc := "(II)V" } : Jvm.MethodName) ∈ tb := tb_at 1589 (by decide +kernel) rfl
theorem q1590 : Cond.code ({ cls := "PinEngines$Machine", name := "writeLatches", desc := "(II)V" } : Jvm.MethodName) prog_5_method_5_code (3 : Nat) (Option.none : Option Jvm.ClassFile.FieldType) ∈ tb := tb_at 1590 (by decide +kernel) rfl
theorem q1591 : Cond.methodLink "PinEngines$Simulator" (307 : Nat) ({ cls := "PinEngines$Machine", name := "writeOutputs", desc := "(II)V" } : Jvm.MethodName) ∈ tb := tb_at 1591 (by decide +kernel) rfl
theorem q1592 : Cond.instanceMethod ({ cls := "PinEngines$Machine", name := "writeOutputs", desc := "(II)V" } : Jvm.MethodName) ∈ tb := tb_at 1592 (by decide +kernel) rfl
theorem q1593 : Cond.selects "PinEngines$Machine" ({ cls := "PinEngines$Machine", name := "writeOutputs", desc := "(II)V" } : Jvm.MethodName) ({ cls := "PinEngines$Machine", name := "writeOutputs", desc := "(II)V" } : Jvm.MethodName) ∈ tb := tb_at 1593 (by decide +kernel) rfl
theorem q1594 : Cond.code ({ cls := "PinEngines$Machine", name := "writeOutputs", desc := "(II)V" } : Jvm.MethodName) prog_5_method_6_code (3 : Nat) (Option.none : Option Jvm.ClassFile.FieldType) ∈ tb := tb_at 1594 (by decide +kernel) rfl
theorem q1595 : Cond.methodLink "PinEngines$Simulator" (349 : Nat) ({ cls := "PinEngines$Program", name := "addressOf", desc := "(I)I" } : Jvm.MethodName) ∈ tb := tb_at 1595 (by decide +kernel) rfl
theorem q1596 : Cond.instanceMethod ({ cls := "PinEngines$Program", name := "addressOf", desc := "(I)I" } : Jvm.MethodName) ∈ tb := tb_at 1596 (by decide +kernel) rfl
theorem q1597 : Cond.selects "PinEngines$Program" ({ cls := "PinEngines$Program", name := "addressOf", desc := "(I)I" } : Jvm.MethodName) ({ cls := "PinEngines$Program", name := "addressOf", desc := "(I)I" } : Jvm.MethodName) ∈ tb := tb_at 1597 (by decide +kernel) rfl
theorem q1598 : Cond.code ({ cls := "PinEngines$Program", name := "addressOf", desc := "(I)I" } : Jvm.MethodName) prog_6_method_9_code (2 : Nat) (Option.some Jvm.ClassFile.FieldType.int) ∈ tb := tb_at 1598 (by decide +kernel) rfl
theorem q1600 : Cond.fieldLink "PinEngines$Simulator" (276 : Nat) "PinEngines$Symbol" "ISR" "LPinEngines$Symbol;" ∈ tb := tb_at 1600 (by decide +kernel) rfl
theorem q1602 : Cond.methodLink "PinEngines$Simulator" (174 : Nat) ({ cls := "PinEngines$Simulator", name := "push", desc := "(LPinEngines$Instruction;LPinEngines$Engine;LPinEngines$Setup;)I" } : Jvm.MethodName) ∈ tb := tb_at 1602 (by decide +kernel) rfl
theorem q1604 : Cond.instanceMethod ({ cls := "PinEngines$Simulator", name := "push", desc := "(LPinEngines$Instruction;LPinEngines$Engine;LPinEngines$Setup;)I" } : Jvm.MethodName) ∈ tb := tb_at 1604 (by decide +kernel) rfl
theorem q1605 : Cond.code ({ cls := "PinEngines$Simulator", name := "push", desc := "(LPinEngines$Instruction;LPinEngines$Engine;LPinEngines$Setup;)I" } : Jvm.MethodName) prog_11_method_12_code (4 : Nat) (Option.some Jvm.ClassFile.FieldType.int) ∈ tb := tb_at 1605 (by decide +kernel) rfl
theorem q1606 : Cond.fieldLink "PinEngines$Simulator" (279 : Nat) "PinEngines$Symbol" "IFFULL" "LPinEngines$Symbol;" ∈ tb := tb_at 1606 (by decide +kernel) rfl
theorem q1607 : Cond.fieldLink "PinEngines$Simulator" (285 : Nat) "PinEngines$Symbol" "NOBLOCK" "LPinEngines$Symbol;" ∈ tb := tb_at 1607 (by decide +kernel) rfl
theorem q1608 : Cond.methodLink "PinEngines$Simulator" (177 : Nat) ({ cls := "PinEngines$Simulator", name := "pull", desc := "(LPinEngines$Instruction;LPinEngines$Engine;LPinEngines$Setup;)I" } : Jvm.MethodName) ∈ tb := tb_at 1608 (by decide +kernel) rfl
theorem q1610 : Cond.instanceMethod ({ cls := "PinEngines$Simulator", name := "pull", desc := "(LPinEngines$Instruction;LPinEngines$Engine;LPinEngines$Setup;)I" } : Jvm.MethodName) ∈ tb := tb_at 1610 (by decide +kernel) rfl
theorem q1611 : Cond.code ({ cls := "PinEngines$Simulator", name := "pull", desc := "(LPinEngines$Instruction;LPinEngines$Engine;LPinEngines$Setup;)I" } : Jvm.MethodName) prog_11_method_13_code (4 : Nat) (Option.some Jvm.ClassFile.FieldType.int) ∈ tb := tb_at 1611 (by decide +kernel) rfl
theorem q1612 : Cond.fieldLink "PinEngines$Simulator" (288 : Nat) "PinEngines$Symbol" "IFEMPTY" "LPinEngines$Symbol;" ∈ tb := tb_at 1612 (by decide +kernel) rfl
theorem q1613 : Cond.methodLink "PinEngines$Simulator" (180 : Nat) ({ cls := "PinEngines$Simulator", name := "moved", desc := "(LPinEngines$Instruction;LPinEngines$Engine;LPinEngines$Setup;)I" } : Jvm.MethodName) ∈ tb := tb_at 1613 (by decide +kernel) rfl
theorem q1615 : Cond.instanceMethod ({ cls := "PinEngines$Simulator", name := "moved", desc := "(LPinEngines$Instruction;LPinEngines$Engine;LPinEngines$Setup;)I" } : Jvm.MethodName) ∈ tb := tb_at 1615 (by decide +kernel) rfl
theorem q1616 : Cond.code ({ cls := "PinEngines$Simulator", name := "moved", desc := "(LPinEngines$Instruction;LPinEngines$Engine;LPinEngines$Setup;)I" } : Jvm.MethodName) prog_11_method_19_code (5 : Nat) (Option.some Jvm.ClassFile.FieldType.int) ∈ tb := tb_at 1616 (by decide +kernel) rfl
theorem q1617 : Cond.fieldLink "PinEngines$Simulator" (332 : Nat) "PinEngines$Symbol" "NOT" "LPinEngines$Symbol;" ∈ tb := tb_at 1617 (by decide +kernel) rfl
theorem q1619 : Cond.fieldLink "PinEngines$Simulator" (335 : Nat) "PinEngines$Symbol" "REVERSE" "LPinEngines$Symbol;" ∈ tb := tb_at 1619 (by decide +kernel) rfl
theorem q1621 : Cond.methodLink "PinEngines$Simulator" (338 : Nat) ({ cls := "java/lang/Integer", name := "reverse", desc := "(I)I" } : Jvm.MethodName) ∈ tb := tb_at 1621 (by decide +kernel) rfl
theorem q1622 : Cond.static ({ cls := "java/lang/Integer", name := "reverse", desc := "(I)I" } : Jvm.MethodName) ∈ tb := tb_at 1622 (by decide +kernel) rfl
theorem q1623 : Cond.code ({ cls := "java/lang/Integer", name := "reverse", desc := "(I)I" } : Jvm.MethodName) prog_25_method_52_code (1 : Nat) (Option.some Jvm.ClassFile.FieldType.int) ∈ tb := tb_at 1623 (by decide +kernel) rfl
theorem q1624 : Cond.constant "java/lang/Integer" (265 : Nat) (1431655765 : Int32) ∈ tb := tb_at 1624 (by decide +kernel) rfl
theorem q1625 : Cond.constant "java/lang/Integer" (266 : Nat) (858993459 : Int32) ∈ tb := tb_at 1625 (by decide +kernel) rfl
theorem q1626 : Cond.constant "java/lang/Integer" (267 : Nat) (252645135 : Int32) ∈ tb := tb_at 1626 (by decide +kernel) rfl
theorem q1627 : Cond.methodLink "java/lang/Integer" (268 : Nat) ({ cls := "java/lang/Integer", name := "reverseBytes", desc := "(I)I" } : Jvm.MethodName) ∈ tb := tb_at 1627 (by decide +kernel) rfl
theorem q1628 : Cond.static ({ cls := "java/lang/Integer", name := "reverseBytes", desc := "(I)I" } : Jvm.MethodName) ∈ tb := tb_at 1628 (by decide +kernel) rfl
theorem q1629 : Cond.code ({ cls := "java/lang/Integer", name := "reverseBytes", desc := "(I)I" } : Jvm.MethodName) prog_25_method_57_code (1 : Nat) (Option.some Jvm.ClassFile.FieldType.int) ∈ tb := tb_at 1629 (by decide +kernel) rfl
theorem q1630 : Cond.constant "java/lang/Integer" (274 : Nat) (65280 : Int32) ∈ tb := tb_at 1630 (by decide +kernel) rfl
theorem q1631 : Cond.methodLink "PinEngines$Simulator" (187 : Nat) ({ cls := "PinEngines$Simulator", name := "signal", desc := "(LPinEngines$Instruction;LPinEngines$Engine;)I" } : Jvm.MethodName) ∈ tb := tb_at 1631 (by decide +kernel) rfl
theorem q1633 : Cond.instanceMethod ({ cls := "PinEngines$Simulator", name := "signal", desc := "(LPinEngines$Instruction;LPinEngines$Engine;)I" } : Jvm.MethodName) ∈ tb := tb_at 1633 (by decide +kernel) rfl
theorem q1634 : Cond.code ({ cls := "PinEngines$Simulator", name := "signal", desc := "(LPinEngines$Instruction;LPinEngines$Engine;)I" } : Jvm.MethodName) prog_11_method_14_code (3 : Nat) (Option.some Jvm.ClassFile.FieldType.int) ∈ tb := tb_at 1634 (by decide +kernel) rfl
theorem q1635 : Cond.methodLink "PinEngines$Simulator" (191 : Nat) ({ cls := "PinEngines$Simulator", name := "set", desc := "(LPinEngines$Instruction;LPinEngines$Engine;LPinEngines$Setup;)V" } : Jvm.MethodName) ∈ tb := tb_at 1635 (by decide +kernel) rfl
theorem q1637 : Cond.instanceMethod ({ cls := "PinEngines$Simulator", name := "set", desc := "(LPinEngines$Instruction;LPinEngines$Engine;LPinEngines$Setup;)V" } : Jvm.MethodName) ∈ tb := tb_at 1637 (by decide +kernel) rfl
theorem q1638 : Cond.code ({ cls := "PinEngines$Simulator", name := "set", desc := "(LPinEngines$Instruction;LPinEngines$Engine;LPinEngines$Setup;)V" } : Jvm.MethodName) prog_11_method_15_code (5 : Nat) (Option.none : Option Jvm.ClassFile.FieldType) ∈ tb := tb_at 1638 (by decide +kernel) rfl
theorem q1639 : Cond.fieldLink "PinEngines$Simulator" (298 : Nat) "PinEngines$Symbol" "PINS" "LPinEngines$Symbol;" ∈ tb := tb_at 1639 (by decide +kernel) rfl
theorem q1641 : Cond.fieldLink "PinEngines$Simulator" (304 : Nat) "PinEngines$Symbol" "DIRS" "LPinEngines$Symbol;" ∈ tb := tb_at 1641 (by decide +kernel) rfl
theorem q1643 : Cond.methodLink "PinEngines$Simulator" (62 : Nat) ({ cls := "PinEngines$Machine", name := "endCycle", desc := "()V" } : Jvm.MethodName) ∈ tb := tb_at 1643 (by decide +kernel) rfl
theorem q1644 : Cond.instanceMethod ({ cls := "PinEngines$Machine", name := "endCycle", desc := "()V" } : Jvm.MethodName) ∈ tb := tb_at 1644 (by decide +kernel) rfl
theorem q1645 : Cond.selects "PinEngines$Machine" ({ cls := "PinEngines$Machine", name := "endCycle", desc := "()V" } : Jvm.MethodName) ({ cls := "PinEngines$Machine", name := "endCycle", desc := "()V" } : Jvm.MethodName) ∈ tb := tb_at 1645 (by decide +kernel) rfl
theorem q1646 : Cond.code ({ cls := "PinEngines$Machine", name := "endCycle", desc := "()V" } : Jvm.MethodName) prog_5_method_10_code (4 : Nat) (Option.none : Option Jvm.ClassFile.FieldType) ∈ tb := tb_at 1646 (by decide +kernel) rfl
theorem q1647 : Cond.methodLink "PinEnginesLaw" (244 : Nat) ({ cls := "PinEnginesLaw", name := "cyclesUntil", desc := "(LPinEngines;III[J)I" } : Jvm.MethodName) ∈ tb := tb_at 1647 (by decide +kernel) rfl
theorem q1648 : Cond.static ({ cls := "PinEnginesLaw", name := "cyclesUntil", desc := "(LPinEngines;III[J)I" } : Jvm.MethodName) ∈ tb := tb_at 1648 (by decide +kernel) rfl
theorem q1650 : Cond.methodLink "PinEnginesLaw" (102 : Nat) ({ cls := "PinEngines", name := "cyclesUntil", desc := "(III)I" } : Jvm.MethodName) ∈ tb := tb_at 1650 (by decide +kernel) rfl
theorem q1651 : Cond.instanceMethod ({ cls := "PinEngines", name := "cyclesUntil", desc := "(III)I" } : Jvm.MethodName) ∈ tb := tb_at 1651 (by decide +kernel) rfl
theorem q1652 : Cond.selects "PinEngines" ({ cls := "PinEngines", name := "cyclesUntil", desc := "(III)I" } : Jvm.MethodName) ({ cls := "PinEngines", name := "cyclesUntil", desc := "(III)I" } : Jvm.MethodName) ∈ tb := tb_at 1652 (by decide +kernel) rfl
theorem q1653 : Cond.code ({ cls := "PinEngines", name := "cyclesUntil", desc := "(III)I" } : Jvm.MethodName) prog_1_method_35_code (5 : Nat) (Option.some Jvm.ClassFile.FieldType.int) ∈ tb := tb_at 1653 (by decide +kernel) rfl
theorem q1654 : Cond.methodLink "PinEngines" (271 : Nat) ({ cls := "PinEngines", name := "checkLimit", desc := "(I)V" } : Jvm.MethodName) ∈ tb := tb_at 1654 (by decide +kernel) rfl
theorem q1655 : Cond.static ({ cls := "PinEngines", name := "checkLimit", desc := "(I)V" } : Jvm.MethodName) ∈ tb := tb_at 1655 (by decide +kernel) rfl
theorem q1656 : Cond.code ({ cls := "PinEngines", name := "checkLimit", desc := "(I)V" } : Jvm.MethodName) prog_1_method_57_code (1 : Nat) (Option.none : Option Jvm.ClassFile.FieldType) ∈ tb := tb_at 1656 (by decide +kernel) rfl
theorem q1657 : Cond.methodLink "PinEnginesLaw" (247 : Nat) ({ cls := "PinEnginesLaw", name := "cyclesTo", desc := "(LPinEngines;III[J)I" } : Jvm.MethodName) ∈ tb := tb_at 1657 (by decide +kernel) rfl
theorem q1658 : Cond.static ({ cls := "PinEnginesLaw", name := "cyclesTo", desc := "(LPinEngines;III[J)I" } : Jvm.MethodName) ∈ tb := tb_at 1658 (by decide +kernel) rfl
theorem q1660 : Cond.methodLink "PinEnginesLaw" (105 : Nat) ({ cls := "PinEngines", name := "cyclesTo", desc := "(III)I" } : Jvm.MethodName) ∈ tb := tb_at 1660 (by decide +kernel) rfl
theorem q1661 : Cond.instanceMethod ({ cls := "PinEngines", name := "cyclesTo", desc := "(III)I" } : Jvm.MethodName) ∈ tb := tb_at 1661 (by decide +kernel) rfl
theorem q1662 : Cond.selects "PinEngines" ({ cls := "PinEngines", name := "cyclesTo", desc := "(III)I" } : Jvm.MethodName) ({ cls := "PinEngines", name := "cyclesTo", desc := "(III)I" } : Jvm.MethodName) ∈ tb := tb_at 1662 (by decide +kernel) rfl
theorem q1663 : Cond.code ({ cls := "PinEngines", name := "cyclesTo", desc := "(III)I" } : Jvm.MethodName) prog_1_method_36_code (5 : Nat) (Option.some Jvm.ClassFile.FieldType.int) ∈ tb := tb_at 1663 (by decide +kernel) rfl
theorem q1664 : Cond.methodLink "PinEngines" (278 : Nat) ({ cls := "PinEngines", name := "checkAddress", desc := "(I)V" } : Jvm.MethodName) ∈ tb := tb_at 1664 (by decide +kernel) rfl
theorem q1666 : Cond.instanceMethod ({ cls := "PinEngines", name := "checkAddress", desc := "(I)V" } : Jvm.MethodName) ∈ tb := tb_at 1666 (by decide +kernel) rfl
theorem q1667 : Cond.code ({ cls := "PinEngines", name := "checkAddress", desc := "(I)V" } : Jvm.MethodName) prog_1_method_53_code (2 : Nat) (Option.none : Option Jvm.ClassFile.FieldType) ∈ tb := tb_at 1667 (by decide +kernel) rfl
theorem q1668 : Cond.methodLink "PinEnginesLaw" (250 : Nat) ({ cls := "PinEnginesLaw", name := "period", desc := "(LPinEngines;II[J)I" } : Jvm.MethodName) ∈ tb := tb_at 1668 (by decide +kernel) rfl
theorem q1669 : Cond.static ({ cls := "PinEnginesLaw", name := "period", desc := "(LPinEngines;II[J)I" } : Jvm.MethodName) ∈ tb := tb_at 1669 (by decide +kernel) rfl
theorem q1671 : Cond.methodLink "PinEnginesLaw" (108 : Nat) ({ cls := "PinEngines", name := "period", desc := "(II)I" } : Jvm.MethodName) ∈ tb := tb_at 1671 (by decide +kernel) rfl
theorem q1672 : Cond.instanceMethod ({ cls := "PinEngines", name := "period", desc := "(II)I" } : Jvm.MethodName) ∈ tb := tb_at 1672 (by decide +kernel) rfl
theorem q1673 : Cond.selects "PinEngines" ({ cls := "PinEngines", name := "period", desc := "(II)I" } : Jvm.MethodName) ({ cls := "PinEngines", name := "period", desc := "(II)I" } : Jvm.MethodName) ∈ tb := tb_at 1673 (by decide +kernel) rfl
theorem q1674 : Cond.code ({ cls := "PinEngines", name := "period", desc := "(II)I" } : Jvm.MethodName) prog_1_method_37_code (7 : Nat) (Option.some Jvm.ClassFile.FieldType.int) ∈ tb := tb_at 1674 (by decide +kernel) rfl
theorem q1675 : Cond.methodLink "PinEnginesLaw" (253 : Nat) ({ cls := "PinEnginesLaw", name := "stuck", desc := "(LPinEngines;I[J)I" } : Jvm.MethodName) ∈ tb := tb_at 1675 (by decide +kernel) rfl
theorem q1676 : Cond.static ({ cls := "PinEnginesLaw", name := "stuck", desc := "(LPinEngines;I[J)I" } : Jvm.MethodName) ∈ tb := tb_at 1676 (by decide +kernel) rfl
theorem q1678 : Cond.methodLink "PinEnginesLaw" (111 : Nat) ({ cls := "PinEngines", name := "stuck", desc := "(I)I" } : Jvm.MethodName) ∈ tb := tb_at 1678 (by decide +kernel) rfl
theorem q1679 : Cond.instanceMethod ({ cls := "PinEngines", name := "stuck", desc := "(I)I" } : Jvm.MethodName) ∈ tb := tb_at 1679 (by decide +kernel) rfl
theorem q1680 : Cond.selects "PinEngines" ({ cls := "PinEngines", name := "stuck", desc := "(I)I" } : Jvm.MethodName) ({ cls := "PinEngines", name := "stuck", desc := "(I)I" } : Jvm.MethodName) ∈ tb := tb_at 1680 (by decide +kernel) rfl
theorem q1681 : Cond.code ({ cls := "PinEngines", name := "stuck", desc := "(I)I" } : Jvm.MethodName) prog_1_method_38_code (4 : Nat) (Option.some Jvm.ClassFile.FieldType.int) ∈ tb := tb_at 1681 (by decide +kernel) rfl
theorem q1682 : Cond.methodLink "PinEngines" (285 : Nat) ({ cls := "PinEngines", name := "idleEngines", desc := "()I" } : Jvm.MethodName) ∈ tb := tb_at 1682 (by decide +kernel) rfl
theorem q1684 : Cond.instanceMethod ({ cls := "PinEngines", name := "idleEngines", desc := "()I" } : Jvm.MethodName) ∈ tb := tb_at 1684 (by decide +kernel) rfl
theorem q1685 : Cond.code ({ cls := "PinEngines", name := "idleEngines", desc := "()I" } : Jvm.MethodName) prog_1_method_49_code (5 : Nat) (Option.some Jvm.ClassFile.FieldType.int) ∈ tb := tb_at 1685 (by decide +kernel) rfl
theorem q1686 : Cond.methodLink "PinEnginesLaw" (256 : Nat) ({ cls := "PinEnginesLaw", name := "divider", desc := "(LPinEngines;II[J)I" } : Jvm.MethodName) ∈ tb := tb_at 1686 (by decide +kernel) rfl
theorem q1687 : Cond.static ({ cls := "PinEnginesLaw", name := "divider", desc := "(LPinEngines;II[J)I" } : Jvm.MethodName) ∈ tb := tb_at 1687 (by decide +kernel) rfl
theorem q1689 : Cond.methodLink "PinEnginesLaw" (114 : Nat) ({ cls := "PinEngines", name := "divider", desc := "(II)I" } : Jvm.MethodName) ∈ tb := tb_at 1689 (by decide +kernel) rfl
theorem q1690 : Cond.instanceMethod ({ cls := "PinEngines", name := "divider", desc := "(II)I" } : Jvm.MethodName) ∈ tb := tb_at 1690 (by decide +kernel) rfl
theorem q1691 : Cond.selects "PinEngines" ({ cls := "PinEngines", name := "divider", desc := "(II)I" } : Jvm.MethodName) ({ cls := "PinEngines", name := "divider", desc := "(II)I" } : Jvm.MethodName) ∈ tb := tb_at 1691 (by decide +kernel) rfl
theorem q1692 : Cond.code ({ cls := "PinEngines", name := "divider", desc := "(II)I" } : Jvm.MethodName) prog_1_method_39_code (5 : Nat) (Option.some Jvm.ClassFile.FieldType.int) ∈ tb := tb_at 1692 (by decide +kernel) rfl
theorem q1693 : Cond.methodLink "PinEngines" (295 : Nat) ({ cls := "java/lang/Math", name := "max", desc := "(II)I" } : Jvm.MethodName) ∈ tb := tb_at 1693 (by decide +kernel) rfl
theorem q1694 : Cond.methodLink "PinEnginesLaw" (259 : Nat) ({ cls := "PinEnginesLaw", name := "format", desc := "(LPinEngines;I[J)I" } : Jvm.MethodName) ∈ tb := tb_at 1694 (by decide +kernel) rfl
theorem q1695 : Cond.static ({ cls := "PinEnginesLaw", name := "format", desc := "(LPinEngines;I[J)I" } : Jvm.MethodName) ∈ tb := tb_at 1695 (by decide +kernel) rfl
theorem q1697 : Cond.methodLink "PinEnginesLaw" (117 : Nat) ({ cls := "PinEngines", name := "format", desc := "(I)I" } : Jvm.MethodName) ∈ tb := tb_at 1697 (by decide +kernel) rfl
theorem q1698 : Cond.instanceMethod ({ cls := "PinEngines", name := "format", desc := "(I)I" } : Jvm.MethodName) ∈ tb := tb_at 1698 (by decide +kernel) rfl
theorem q1699 : Cond.selects "PinEngines" ({ cls := "PinEngines", name := "format", desc := "(I)I" } : Jvm.MethodName) ({ cls := "PinEngines", name := "format", desc := "(I)I" } : Jvm.MethodName) ∈ tb := tb_at 1699 (by decide +kernel) rfl
theorem q1700 : Cond.code ({ cls := "PinEngines", name := "format", desc := "(I)I" } : Jvm.MethodName) prog_1_method_40_code (2 : Nat) (Option.some Jvm.ClassFile.FieldType.int) ∈ tb := tb_at 1700 (by decide +kernel) rfl
theorem q1701 : Cond.methodLink "PinEngines" (298 : Nat) ({ cls := "java/lang/StringBuilder", name := "setLength", desc := "(I)V" } : Jvm.MethodName) ∈ tb := tb_at 1701 (by decide +kernel) rfl
theorem q1702 : Cond.instanceMethod ({ cls := "java/lang/StringBuilder", name := "setLength", desc := "(I)V" } : Jvm.MethodName) ∈ tb := tb_at 1702 (by decide +kernel) rfl
theorem q1703 : Cond.selects "java/lang/StringBuilder" ({ cls := "java/lang/StringBuilder", name := "setLength", desc := "(I)V" } : Jvm.MethodName) ({ cls := "java/lang/StringBuilder", name := "setLength", desc := "(I)V" } : Jvm.MethodName) ∈ tb := tb_at 1703 (by decide +kernel) rfl
theorem q1704 : Cond.code ({ cls := "java/lang/StringBuilder", name := "setLength", desc := "(I)V" } : Jvm.MethodName) prog_30_method_89_code (2 : Nat) (Option.none : Option Jvm.ClassFile.FieldType) ∈ tb := tb_at 1704 (by decide +kernel) rfl
theorem q1705 : Cond.methodLink "java/lang/StringBuilder" (333 : Nat) ({ cls := "java/lang/AbstractStringBuilder", name := "setLength", desc := "(I)V" } : Jvm.MethodName) ∈ tb := tb_at 1705 (by decide +kernel) rfl
theorem q1706 : Cond.instanceMethod ({ cls := "java/lang/AbstractStringBuilder", name := "setLength", desc := "(I)V" } : Jvm.MethodName) ∈ tb := tb_at 1706 (by decide +kernel) rfl
theorem q1707 : Cond.code ({ cls := "java/lang/AbstractStringBuilder", name := "setLength", desc := "(I)V" } : Jvm.MethodName) prog_17_method_13_code (2 : Nat) (Option.none : Option Jvm.ClassFile.FieldType) ∈ tb := tb_at 1707 (by decide +kernel) rfl
theorem q1708 : Cond.methodLink "java/lang/AbstractStringBuilder" (100 : Nat) ({ cls := "java/lang/AbstractStringBuilder", name := "ensureCapacityInternal", desc := "(I)V" } : Jvm.MethodName) ∈ tb := tb_at 1708 (by decide +kernel) rfl
theorem q1710 : Cond.instanceMethod ({ cls := "java/lang/AbstractStringBuilder", name := "ensureCapacityInternal", desc := "(I)V" } : Jvm.MethodName) ∈ tb := tb_at 1710 (by decide +kernel) rfl
theorem q1711 : Cond.code ({ cls := "java/lang/AbstractStringBuilder", name := "ensureCapacityInternal", desc := "(I)V" } : Jvm.MethodName) prog_17_method_9_code (3 : Nat) (Option.none : Option Jvm.ClassFile.FieldType) ∈ tb := tb_at 1711 (by decide +kernel) rfl
theorem q1712 : Cond.methodLink "java/lang/AbstractStringBuilder" (104 : Nat) ({ cls := "java/lang/AbstractStringBuilder", name := "newCapacity", desc := "(I)I" } : Jvm.MethodName) ∈ tb := tb_at 1712 (by decide +kernel) rfl
theorem q1714 : Cond.instanceMethod ({ cls := "java/lang/AbstractStringBuilder", name := "newCapacity", desc := "(I)I" } : Jvm.MethodName) ∈ tb := tb_at 1714 (by decide +kernel) rfl
theorem q1715 : Cond.code ({ cls := "java/lang/AbstractStringBuilder", name := "newCapacity", desc := "(I)I" } : Jvm.MethodName) prog_17_method_10_code (6 : Nat) (Option.some Jvm.ClassFile.FieldType.int) ∈ tb := tb_at 1715 (by decide +kernel) rfl
theorem q1716 : Cond.methodLink "java/lang/AbstractStringBuilder" (114 : Nat) ({ cls := "jdk/internal/util/ArraysSupport", name := "newLength", desc := "(III)I" } : Jvm.MethodName) ∈ tb := tb_at 1716 (by decide +kernel) rfl
theorem q1717 : Cond.static ({ cls := "jdk/internal/util/ArraysSupport", name := "newLength", desc := "(III)I" } : Jvm.MethodName) ∈ tb := tb_at 1717 (by decide +kernel) rfl
theorem q1718 : Cond.code ({ cls := "jdk/internal/util/ArraysSupport", name := "newLength", desc := "(III)I" } : Jvm.MethodName) prog_39_method_27_code (4 : Nat) (Option.some Jvm.ClassFile.FieldType.int) ∈ tb := tb_at 1718 (by decide +kernel) rfl
theorem q1719 : Cond.methodLink "jdk/internal/util/ArraysSupport" (194 : Nat) ({ cls := "java/lang/Math", name := "max", desc := "(II)I" } : Jvm.MethodName) ∈ tb := tb_at 1719 (by decide +kernel) rfl
theorem q1720 : Cond.constant "jdk/internal/util/ArraysSupport" (200 : Nat) (2147483639 : Int32) ∈ tb := tb_at 1720 (by decide +kernel) rfl
theorem q1721 : Cond.methodLink "jdk/internal/util/ArraysSupport" (201 : Nat) ({ cls := "jdk/internal/util/ArraysSupport", name := "hugeLength", desc := "(II)I" } : Jvm.MethodName) ∈ tb := tb_at 1721 (by decide +kernel) rfl
theorem q1722 : Cond.static ({ cls := "jdk/internal/util/ArraysSupport", name := "hugeLength", desc := "(II)I" } : Jvm.MethodName) ∈ tb := tb_at 1722 (by decide +kernel) rfl
theorem q1723 : Cond.code ({ cls := "jdk/internal/util/ArraysSupport", name := "hugeLength", desc := "(II)I" } : Jvm.MethodName) prog_39_method_28_code (3 : Nat) (Option.some Jvm.ClassFile.FieldType.int) ∈ tb := tb_at 1723 (by decide +kernel) rfl
theorem q1724 : Cond.constant "java/lang/AbstractStringBuilder" (39 : Nat) (2147483647 : Int32) ∈ tb := tb_at 1724 (by decide +kernel) rfl
theorem q1725 : Cond.methodLink "java/lang/AbstractStringBuilder" (108 : Nat) ({ cls := "java/util/Arrays", name := "copyOf", desc := "([BI)[B" } : Jvm.MethodName) ∈ tb := tb_at 1725 (by decide +kernel) rfl
theorem q1726 : Cond.static ({ cls := "java/util/Arrays", name := "copyOf", desc := "([BI)[B" } : Jvm.MethodName) ∈ tb := tb_at 1726 (by decide +kernel) rfl
theorem q1727 : Cond.code ({ cls := "java/util/Arrays", name := "copyOf", desc := "([BI)[B" } : Jvm.MethodName) prog_37_method_121_code (3 : Nat) (Option.some (Jvm.ClassFile.FieldType.array Jvm.ClassFile.FieldType.byte)) ∈ tb := tb_at 1727 (by decide +kernel) rfl
theorem q1728 : Cond.methodLink "java/util/Arrays" (310 : Nat) ({ cls := "[B", name := "clone", desc := "()Ljava/lang/Object;" } : Jvm.MethodName) ∈ tb := tb_at 1728 (by decide +kernel) rfl
theorem q1730 : Cond.native ({ cls := "java/lang/Object", name := "clone", desc := "()Ljava/lang/Object;" } : Jvm.MethodName) ∈ tb := tb_at 1730 (by decide +kernel) rfl
theorem q1731 : Cond.instanceMethod ({ cls := "java/lang/Object", name := "clone", desc := "()Ljava/lang/Object;" } : Jvm.MethodName) ∈ tb := tb_at 1731 (by decide +kernel) rfl
theorem q1732 : Cond.selects "[B" ({ cls := "[B", name := "clone", desc := "()Ljava/lang/Object;" } : Jvm.MethodName) ({ cls := "java/lang/Object", name := "clone", desc := "()Ljava/lang/Object;" } : Jvm.MethodName) ∈ tb := tb_at 1732 (by decide +kernel) rfl
theorem q1734 : Cond.classLink "java/util/Arrays" (311 : Nat) "[B" ∈ tb := tb_at 1734 (by decide +kernel) rfl
theorem q1735 : Cond.methodLink "java/util/Arrays" (304 : Nat) ({ cls := "java/lang/Math", name := "min", desc := "(II)I" } : Jvm.MethodName) ∈ tb := tb_at 1735 (by decide +kernel) rfl
theorem q1736 : Cond.methodLink "java/util/Arrays" (150 : Nat) ({ cls := "java/lang/System", name := "arraycopy", desc := "(Ljava/lang/Object;ILjava/lang/Object;II)V" } : Jvm.MethodName) ∈ tb := tb_at 1736 (by decide +kernel) rfl
theorem q1737 : Cond.methodLink "java/lang/AbstractStringBuilder" (83 : Nat) ({ cls := "java/lang/AbstractStringBuilder", name := "isLatin1", desc := "()Z" } : Jvm.MethodName) ∈ tb := tb_at 1737 (by decide +kernel) rfl
theorem q1738 : Cond.instanceMethod ({ cls := "java/lang/AbstractStringBuilder", name := "isLatin1", desc := "()Z" } : Jvm.MethodName) ∈ tb := tb_at 1738 (by decide +kernel) rfl
theorem q1740 : Cond.selects "java/lang/StringBuilder" ({ cls := "java/lang/AbstractStringBuilder", name := "isLatin1", desc := "()Z" } : Jvm.MethodName) ({ cls := "java/lang/AbstractStringBuilder", name := "isLatin1", desc := "()Z" } : Jvm.MethodName) ∈ tb := tb_at 1740 (by decide +kernel) rfl
theorem q1741 : Cond.code ({ cls := "java/lang/AbstractStringBuilder", name := "isLatin1", desc := "()Z" } : Jvm.MethodName) prog_17_method_68_code (1 : Nat) (Option.some Jvm.ClassFile.FieldType.boolean) ∈ tb := tb_at 1741 (by decide +kernel) rfl
theorem q1742 : Cond.methodLink "java/lang/AbstractStringBuilder" (133 : Nat) ({ cls := "java/lang/StringLatin1", name := "fillNull", desc := "([BII)V" } : Jvm.MethodName) ∈ tb := tb_at 1742 (by decide +kernel) rfl
theorem q1743 : Cond.static ({ cls := "java/lang/StringLatin1", name := "fillNull", desc := "([BII)V" } : Jvm.MethodName) ∈ tb := tb_at 1743 (by decide +kernel) rfl
theorem q1744 : Cond.code ({ cls := "java/lang/StringLatin1", name := "fillNull", desc := "([BII)V" } : Jvm.MethodName) prog_31_method_48_code (3 : Nat) (Option.none : Option Jvm.ClassFile.FieldType) ∈ tb := tb_at 1744 (by decide +kernel) rfl
theorem q1745 : Cond.methodLink "java/lang/StringLatin1" (236 : Nat) ({ cls := "java/util/Arrays", name := "fill", desc := "([BIIB)V" } : Jvm.MethodName) ∈ tb := tb_at 1745 (by decide +kernel) rfl
theorem q1746 : Cond.static ({ cls := "java/util/Arrays", name := "fill", desc := "([BIIB)V" } : Jvm.MethodName) ∈ tb := tb_at 1746 (by decide +kernel) rfl
theorem q1747 : Cond.code ({ cls := "java/util/Arrays", name := "fill", desc := "([BIIB)V" } : Jvm.MethodName) prog_37_method_110_code (5 : Nat) (Option.none : Option Jvm.ClassFile.FieldType) ∈ tb := tb_at 1747 (by decide +kernel) rfl
theorem q1748 : Cond.methodLink "java/util/Arrays" (13 : Nat) ({ cls := "java/util/Arrays", name := "rangeCheck", desc := "(III)V" } : Jvm.MethodName) ∈ tb := tb_at 1748 (by decide +kernel) rfl
theorem q1749 : Cond.static ({ cls := "java/util/Arrays", name := "rangeCheck", desc := "(III)V" } : Jvm.MethodName) ∈ tb := tb_at 1749 (by decide +kernel) rfl
theorem q1750 : Cond.code ({ cls := "java/util/Arrays", name := "rangeCheck", desc := "(III)V" } : Jvm.MethodName) prog_37_method_30_code (3 : Nat) (Option.none : Option Jvm.ClassFile.FieldType) ∈ tb := tb_at 1750 (by decide +kernel) rfl
theorem q1751 : Cond.classLink "java/util/Arrays" (43 : Nat) "java/lang/IllegalArgumentException" ∈ tb := tb_at 1751 (by decide +kernel) rfl
theorem q1752 : Cond.classLink "java/util/Arrays" (45 : Nat) "java/lang/StringBuilder" ∈ tb := tb_at 1752 (by decide +kernel) rfl
theorem q1753 : Cond.methodLink "java/util/Arrays" (47 : Nat) ({ cls := "java/lang/StringBuilder", name := "<init>", desc := "()V" } : Jvm.MethodName) ∈ tb := tb_at 1753 (by decide +kernel) rfl
theorem q1754 : Cond.stringRef "java/util/Arrays" (48 : Nat) "fromIndex(" ∈ tb := tb_at 1754 (by decide +kernel) rfl
theorem q1755 : Cond.methodLink "java/util/Arrays" (50 : Nat) ({ cls := "java/lang/StringBuilder", name := "append", desc := "(Ljava/lang/String;)Ljava/lang/StringBuilder;" } : Jvm.MethodName) ∈ tb := tb_at 1755 (by decide +kernel) rfl
theorem q1756 : Cond.instanceMethod ({ cls := "java/lang/StringBuilder", name := "append", desc := "(Ljava/lang/String;)Ljava/lang/StringBuilder;" } : Jvm.MethodName) ∈ tb := tb_at 1756 (by decide +kernel) rfl
theorem q1757 : Cond.selects "java/lang/StringBuilder" ({ cls := "java/lang/StringBuilder", name := "append", desc := "(Ljava/lang/String;)Ljava/lang/StringBuilder;" } : Jvm.MethodName) ({ cls := "java/lang/StringBuilder", name := "append", desc := "(Ljava/lang/String;)Ljava/lang/StringBuilder;" } : Jvm.MethodName) ∈ tb := tb_at 1757 (by decide +kernel) rfl
theorem q1758 : Cond.code ({ cls := "java/lang/StringBuilder", name := "append", desc := "(Ljava/lang/String;)Ljava/lang/StringBuilder;" } : Jvm.MethodName) prog_30_method_7_code (2 : Nat) (Option.some (Jvm.ClassFile.FieldType.object "java/lang/StringBuilder")) ∈ tb := tb_at 1758 (by decide +kernel) rfl
theorem q1759 : Cond.methodLink "java/lang/StringBuilder" (29 : Nat) ({ cls := "java/lang/AbstractStringBuilder", name := "append", desc := "(Ljava/lang/String;)Ljava/lang/AbstractStringBuilder;" } : Jvm.MethodName) ∈ tb := tb_at 1759 (by decide +kernel) rfl
theorem q1760 : Cond.instanceMethod ({ cls := "java/lang/AbstractStringBuilder", name := "append", desc := "(Ljava/lang/String;)Ljava/lang/AbstractStringBuilder;" } : Jvm.MethodName) ∈ tb := tb_at 1760 (by decide +kernel) rfl
theorem q1761 : Cond.code ({ cls := "java/lang/AbstractStringBuilder", name := "append", desc := "(Ljava/lang/String;)Ljava/lang/AbstractStringBuilder;" } : Jvm.MethodName) prog_17_method_22_code (3 : Nat) (Option.some (Jvm.ClassFile.FieldType.object "java/lang/AbstractStringBuilder")) ∈ tb := tb_at 1761 (by decide +kernel) rfl
theorem q1762 : Cond.methodLink "java/lang/AbstractStringBuilder" (204 : Nat) ({ cls := "java/lang/AbstractStringBuilder", name := "appendNull", desc := "()Ljava/lang/AbstractStringBuilder;" } : Jvm.MethodName) ∈ tb := tb_at 1762 (by decide +kernel) rfl
theorem q1764 : Cond.instanceMethod ({ cls := "java/lang/AbstractStringBuilder", name := "appendNull", desc := "()Ljava/lang/AbstractStringBuilder;" } : Jvm.MethodName) ∈ tb := tb_at 1764 (by decide +kernel) rfl
theorem q1765 : Cond.code ({ cls := "java/lang/AbstractStringBuilder", name := "appendNull", desc := "()Ljava/lang/AbstractStringBuilder;" } : Jvm.MethodName) prog_17_method_26_code (3 : Nat) (Option.some (Jvm.ClassFile.FieldType.object "java/lang/AbstractStringBuilder")) ∈ tb := tb_at 1765 (by decide +kernel) rfl
theorem q1766 : Cond.methodLink "java/lang/AbstractStringBuilder" (226 : Nat) ({ cls := "java/lang/StringUTF16", name := "putCharsAt", desc := "([BICCCC)I" } : Jvm.MethodName) ∈ tb := tb_at 1766 (by decide +kernel) rfl
theorem q1767 : Cond.static ({ cls := "java/lang/StringUTF16", name := "putCharsAt", desc := "([BICCCC)I" } : Jvm.MethodName) ∈ tb := tb_at 1767 (by decide +kernel) rfl
theorem q1768 : Cond.code ({ cls := "java/lang/StringUTF16", name := "putCharsAt", desc := "([BICCCC)I" } : Jvm.MethodName) prog_32_method_81_code (7 : Nat) (Option.some Jvm.ClassFile.FieldType.int) ∈ tb := tb_at 1768 (by decide +kernel) rfl
theorem q1769 : Cond.methodLink "java/lang/StringUTF16" (96 : Nat) ({ cls := "java/lang/StringUTF16", name := "checkBoundsBeginEnd", desc := "(II[B)V" } : Jvm.MethodName) ∈ tb := tb_at 1769 (by decide +kernel) rfl
theorem q1770 : Cond.static ({ cls := "java/lang/StringUTF16", name := "checkBoundsBeginEnd", desc := "(II[B)V" } : Jvm.MethodName) ∈ tb := tb_at 1770 (by decide +kernel) rfl
theorem q1771 : Cond.code ({ cls := "java/lang/StringUTF16", name := "checkBoundsBeginEnd", desc := "(II[B)V" } : Jvm.MethodName) prog_32_method_93_code (3 : Nat) (Option.none : Option Jvm.ClassFile.FieldType) ∈ tb := tb_at 1771 (by decide +kernel) rfl
theorem q1772 : Cond.methodLink "java/lang/StringUTF16" (241 : Nat) ({ cls := "java/lang/String", name := "checkBoundsBeginEnd", desc := "(III)V" } : Jvm.MethodName) ∈ tb := tb_at 1772 (by decide +kernel) rfl
theorem q1773 : Cond.static ({ cls := "java/lang/String", name := "checkBoundsBeginEnd", desc := "(III)V" } : Jvm.MethodName) ∈ tb := tb_at 1773 (by decide +kernel) rfl
theorem q1774 : Cond.code ({ cls := "java/lang/String", name := "checkBoundsBeginEnd", desc := "(III)V" } : Jvm.MethodName) prog_29_method_158_code (3 : Nat) (Option.none : Option Jvm.ClassFile.FieldType) ∈ tb := tb_at 1774 (by decide +kernel) rfl
theorem q1775 : Cond.methodLink "java/lang/String" (1062 : Nat) ({ cls := "jdk/internal/util/Preconditions", name := "checkFromToIndex", desc := "(IIILjava/util/function/BiFunction;)I" } : Jvm.MethodName) ∈ tb := tb_at 1775 (by decide +kernel) rfl
theorem q1776 : Cond.static ({ cls := "jdk/internal/util/Preconditions", name := "checkFromToIndex", desc := "(IIILjava/util/function/BiFunction;)I" } : Jvm.MethodName) ∈ tb := tb_at 1776 (by decide +kernel) rfl
theorem q1777 : Cond.code ({ cls := "jdk/internal/util/Preconditions", name := "checkFromToIndex", desc := "(IIILjava/util/function/BiFunction;)I" } : Jvm.MethodName) prog_40_method_12_code (4 : Nat) (Option.some Jvm.ClassFile.FieldType.int) ∈ tb := tb_at 1777 (by decide +kernel) rfl
theorem q1778 : Cond.methodLink "java/lang/StringUTF16" (111 : Nat) ({ cls := "java/lang/StringUTF16", name := "putChar", desc := "([BII)V" } : Jvm.MethodName) ∈ tb := tb_at 1778 (by decide +kernel) rfl
theorem q1779 : Cond.static ({ cls := "java/lang/StringUTF16", name := "putChar", desc := "([BII)V" } : Jvm.MethodName) ∈ tb := tb_at 1779 (by decide +kernel) rfl
theorem q1780 : Cond.code ({ cls := "java/lang/StringUTF16", name := "putChar", desc := "([BII)V" } : Jvm.MethodName) prog_32_method_4_code (3 : Nat) (Option.none : Option Jvm.ClassFile.FieldType) ∈ tb := tb_at 1780 (by decide +kernel) rfl
theorem q1781 : Cond.methodLink "java/lang/AbstractStringBuilder" (32 : Nat) ({ cls := "java/lang/String", name := "length", desc := "()I" } : Jvm.MethodName) ∈ tb := tb_at 1781 (by decide +kernel) rfl
theorem q1782 : Cond.methodLink "java/lang/AbstractStringBuilder" (208 : Nat) ({ cls := "java/lang/AbstractStringBuilder", name := "putStringAt", desc := "(ILjava/lang/String;)V" } : Jvm.MethodName) ∈ tb := tb_at 1782 (by decide +kernel) rfl
theorem q1784 : Cond.instanceMethod ({ cls := "java/lang/AbstractStringBuilder", name := "putStringAt", desc := "(ILjava/lang/String;)V" } : Jvm.MethodName) ∈ tb := tb_at 1784 (by decide +kernel) rfl
theorem q1785 : Cond.code ({ cls := "java/lang/AbstractStringBuilder", name := "putStringAt", desc := "(ILjava/lang/String;)V" } : Jvm.MethodName) prog_17_method_73_code (3 : Nat) (Option.none : Option Jvm.ClassFile.FieldType) ∈ tb := tb_at 1785 (by decide +kernel) rfl
theorem q1786 : Cond.methodLink "java/lang/AbstractStringBuilder" (397 : Nat) ({ cls := "java/lang/AbstractStringBuilder", name := "inflateIfNeededFor", desc := "(Ljava/lang/String;)V" } : Jvm.MethodName) ∈ tb := tb_at 1786 (by decide +kernel) rfl
theorem q1788 : Cond.instanceMethod ({ cls := "java/lang/AbstractStringBuilder", name := "inflateIfNeededFor", desc := "(Ljava/lang/String;)V" } : Jvm.MethodName) ∈ tb := tb_at 1788 (by decide +kernel) rfl
theorem q1789 : Cond.code ({ cls := "java/lang/AbstractStringBuilder", name := "inflateIfNeededFor", desc := "(Ljava/lang/String;)V" } : Jvm.MethodName) prog_17_method_71_code (2 : Nat) (Option.none : Option Jvm.ClassFile.FieldType) ∈ tb := tb_at 1789 (by decide +kernel) rfl
theorem q1790 : Cond.methodLink "java/lang/AbstractStringBuilder" (40 : Nat) ({ cls := "java/lang/String", name := "coder", desc := "()B" } : Jvm.MethodName) ∈ tb := tb_at 1790 (by decide +kernel) rfl
theorem q1791 : Cond.methodLink "java/lang/AbstractStringBuilder" (195 : Nat) ({ cls := "java/lang/AbstractStringBuilder", name := "inflate", desc := "()V" } : Jvm.MethodName) ∈ tb := tb_at 1791 (by decide +kernel) rfl
theorem q1793 : Cond.instanceMethod ({ cls := "java/lang/AbstractStringBuilder", name := "inflate", desc := "()V" } : Jvm.MethodName) ∈ tb := tb_at 1793 (by decide +kernel) rfl
theorem q1794 : Cond.code ({ cls := "java/lang/AbstractStringBuilder", name := "inflate", desc := "()V" } : Jvm.MethodName) prog_17_method_11_code (2 : Nat) (Option.none : Option Jvm.ClassFile.FieldType) ∈ tb := tb_at 1794 (by decide +kernel) rfl
theorem q1795 : Cond.methodLink "java/lang/AbstractStringBuilder" (125 : Nat) ({ cls := "java/lang/StringLatin1", name := "inflate", desc := "([BI[BII)V" } : Jvm.MethodName) ∈ tb := tb_at 1795 (by decide +kernel) rfl
theorem q1796 : Cond.static ({ cls := "java/lang/StringLatin1", name := "inflate", desc := "([BI[BII)V" } : Jvm.MethodName) ∈ tb := tb_at 1796 (by decide +kernel) rfl
theorem q1797 : Cond.code ({ cls := "java/lang/StringLatin1", name := "inflate", desc := "([BI[BII)V" } : Jvm.MethodName) prog_31_method_50_code (5 : Nat) (Option.none : Option Jvm.ClassFile.FieldType) ∈ tb := tb_at 1797 (by decide +kernel) rfl
theorem q1798 : Cond.methodLink "java/lang/StringLatin1" (240 : Nat) ({ cls := "java/lang/StringUTF16", name := "inflate", desc := "([BI[BII)V" } : Jvm.MethodName) ∈ tb := tb_at 1798 (by decide +kernel) rfl
theorem q1799 : Cond.static ({ cls := "java/lang/StringUTF16", name := "inflate", desc := "([BI[BII)V" } : Jvm.MethodName) ∈ tb := tb_at 1799 (by decide +kernel) rfl
theorem q1800 : Cond.code ({ cls := "java/lang/StringUTF16", name := "inflate", desc := "([BI[BII)V" } : Jvm.MethodName) prog_32_method_86_code (6 : Nat) (Option.none : Option Jvm.ClassFile.FieldType) ∈ tb := tb_at 1800 (by decide +kernel) rfl
theorem q1801 : Cond.methodLink "java/lang/StringUTF16" (173 : Nat) ({ cls := "java/lang/StringUTF16", name := "checkBoundsOffCount", desc := "(II[B)V" } : Jvm.MethodName) ∈ tb := tb_at 1801 (by decide +kernel) rfl
theorem q1802 : Cond.static ({ cls := "java/lang/StringUTF16", name := "checkBoundsOffCount", desc := "(II[B)V" } : Jvm.MethodName) ∈ tb := tb_at 1802 (by decide +kernel) rfl
theorem q1803 : Cond.code ({ cls := "java/lang/StringUTF16", name := "checkBoundsOffCount", desc := "(II[B)V" } : Jvm.MethodName) prog_32_method_94_code (3 : Nat) (Option.none : Option Jvm.ClassFile.FieldType) ∈ tb := tb_at 1803 (by decide +kernel) rfl
theorem q1804 : Cond.methodLink "java/lang/StringUTF16" (419 : Nat) ({ cls := "java/lang/String", name := "checkBoundsOffCount", desc := "(III)I" } : Jvm.MethodName) ∈ tb := tb_at 1804 (by decide +kernel) rfl
theorem q1805 : Cond.static ({ cls := "java/lang/String", name := "checkBoundsOffCount", desc := "(III)I" } : Jvm.MethodName) ∈ tb := tb_at 1805 (by decide +kernel) rfl
theorem q1806 : Cond.code ({ cls := "java/lang/String", name := "checkBoundsOffCount", desc := "(III)I" } : Jvm.MethodName) prog_29_method_157_code (3 : Nat) (Option.some Jvm.ClassFile.FieldType.int) ∈ tb := tb_at 1806 (by decide +kernel) rfl
theorem q1807 : Cond.methodLink "java/lang/String" (1065 : Nat) ({ cls := "jdk/internal/util/Preconditions", name := "checkFromIndexSize", desc := "(IIILjava/util/function/BiFunction;)I" } : Jvm.MethodName) ∈ tb := tb_at 1807 (by decide +kernel) rfl
theorem q1808 : Cond.static ({ cls := "jdk/internal/util/Preconditions", name := "checkFromIndexSize", desc := "(IIILjava/util/function/BiFunction;)I" } : Jvm.MethodName) ∈ tb := tb_at 1808 (by decide +kernel) rfl
theorem q1809 : Cond.code ({ cls := "jdk/internal/util/Preconditions", name := "checkFromIndexSize", desc := "(IIILjava/util/function/BiFunction;)I" } : Jvm.MethodName) prog_40_method_13_code (4 : Nat) (Option.some Jvm.ClassFile.FieldType.int) ∈ tb := tb_at 1809 (by decide +kernel) rfl
theorem q1810 : Cond.methodLink "java/lang/AbstractStringBuilder" (399 : Nat) ({ cls := "java/lang/String", name := "getBytes", desc := "([BIB)V" } : Jvm.MethodName) ∈ tb := tb_at 1810 (by decide +kernel) rfl
theorem q1811 : Cond.instanceMethod ({ cls := "java/lang/String", name := "getBytes", desc := "([BIB)V" } : Jvm.MethodName) ∈ tb := tb_at 1811 (by decide +kernel) rfl
theorem q1812 : Cond.selects "java/lang/String" ({ cls := "java/lang/String", name := "getBytes", desc := "([BIB)V" } : Jvm.MethodName) ({ cls := "java/lang/String", name := "getBytes", desc := "([BIB)V" } : Jvm.MethodName) ∈ tb := tb_at 1812 (by decide +kernel) rfl
theorem q1813 : Cond.code ({ cls := "java/lang/String", name := "getBytes", desc := "([BIB)V" } : Jvm.MethodName) prog_29_method_147_code (4 : Nat) (Option.none : Option Jvm.ClassFile.FieldType) ∈ tb := tb_at 1813 (by decide +kernel) rfl
theorem q1814 : Cond.methodLink "java/lang/String" (212 : Nat) ({ cls := "java/lang/System", name := "arraycopy", desc := "(Ljava/lang/Object;ILjava/lang/Object;II)V" } : Jvm.MethodName) ∈ tb := tb_at 1814 (by decide +kernel) rfl
theorem q1815 : Cond.methodLink "java/lang/String" (106 : Nat) ({ cls := "java/lang/StringLatin1", name := "inflate", desc := "([BI[BII)V" } : Jvm.MethodName) ∈ tb := tb_at 1815 (by decide +kernel) rfl
theorem q1816 : Cond.methodLink "java/util/Arrays" (54 : Nat) ({ cls := "java/lang/StringBuilder", name := "append", desc := "(I)Ljava/lang/StringBuilder;" } : Jvm.MethodName) ∈ tb := tb_at 1816 (by decide +kernel) rfl
theorem q1817 : Cond.instanceMethod ({ cls := "java/lang/StringBuilder", name := "append", desc := "(I)Ljava/lang/StringBuilder;" } : Jvm.MethodName) ∈ tb := tb_at 1817 (by decide +kernel) rfl
theorem q1818 : Cond.selects "java/lang/StringBuilder" ({ cls := "java/lang/StringBuilder", name := "append", desc := "(I)Ljava/lang/StringBuilder;" } : Jvm.MethodName) ({ cls := "java/lang/StringBuilder", name := "append", desc := "(I)Ljava/lang/StringBuilder;" } : Jvm.MethodName) ∈ tb := tb_at 1818 (by decide +kernel) rfl
theorem q1819 : Cond.code ({ cls := "java/lang/StringBuilder", name := "append", desc := "(I)Ljava/lang/StringBuilder;" } : Jvm.MethodName) prog_30_method_15_code (2 : Nat) (Option.some (Jvm.ClassFile.FieldType.object "java/lang/StringBuilder")) ∈ tb := tb_at 1819 (by decide +kernel) rfl
theorem q1820 : Cond.methodLink "java/lang/StringBuilder" (53 : Nat) ({ cls := "java/lang/AbstractStringBuilder", name := "append", desc := "(I)Ljava/lang/AbstractStringBuilder;" } : Jvm.MethodName) ∈ tb := tb_at 1820 (by decide +kernel) rfl
theorem q1821 : Cond.instanceMethod ({ cls := "java/lang/AbstractStringBuilder", name := "append", desc := "(I)Ljava/lang/AbstractStringBuilder;" } : Jvm.MethodName) ∈ tb := tb_at 1821 (by decide +kernel) rfl
theorem q1822 : Cond.code ({ cls := "java/lang/AbstractStringBuilder", name := "append", desc := "(I)Ljava/lang/AbstractStringBuilder;" } : Jvm.MethodName) prog_17_method_32_code (4 : Nat) (Option.some (Jvm.ClassFile.FieldType.object "java/lang/AbstractStringBuilder")) ∈ tb := tb_at 1822 (by decide +kernel) rfl
theorem q1823 : Cond.methodLink "java/lang/AbstractStringBuilder" (245 : Nat) ({ cls := "java/lang/Integer", name := "stringSize", desc := "(I)I" } : Jvm.MethodName) ∈ tb := tb_at 1823 (by decide +kernel) rfl
theorem q1824 : Cond.static ({ cls := "java/lang/Integer", name := "stringSize", desc := "(I)I" } : Jvm.MethodName) ∈ tb := tb_at 1824 (by decide +kernel) rfl
theorem q1825 : Cond.code ({ cls := "java/lang/Integer", name := "stringSize", desc := "(I)I" } : Jvm.MethodName) prog_25_method_13_code (4 : Nat) (Option.some Jvm.ClassFile.FieldType.int) ∈ tb := tb_at 1825 (by decide +kernel) rfl
theorem q1826 : Cond.methodLink "java/lang/AbstractStringBuilder" (248 : Nat) ({ cls := "java/lang/Integer", name := "getChars", desc := "(II[B)I" } : Jvm.MethodName) ∈ tb := tb_at 1826 (by decide +kernel) rfl
theorem q1827 : Cond.static ({ cls := "java/lang/Integer", name := "getChars", desc := "(II[B)I" } : Jvm.MethodName) ∈ tb := tb_at 1827 (by decide +kernel) rfl
theorem q1828 : Cond.code ({ cls := "java/lang/Integer", name := "getChars", desc := "(II[B)I" } : Jvm.MethodName) prog_25_method_12_code (7 : Nat) (Option.some Jvm.ClassFile.FieldType.int) ∈ tb := tb_at 1828 (by decide +kernel) rfl
theorem q1829 : Cond.fieldLink "java/lang/Integer" (83 : Nat) "java/lang/Integer" "DigitOnes" "[B" ∈ tb := tb_at 1829 (by decide +kernel) rfl
theorem q1831 : Cond.fieldLink "java/lang/Integer" (87 : Nat) "java/lang/Integer" "DigitTens" "[B" ∈ tb := tb_at 1831 (by decide +kernel) rfl
theorem q1833 : Cond.methodLink "java/lang/AbstractStringBuilder" (251 : Nat) ({ cls := "java/lang/StringUTF16", name := "getChars", desc := "(III[B)I" } : Jvm.MethodName) ∈ tb := tb_at 1833 (by decide +kernel) rfl
theorem q1834 : Cond.static ({ cls := "java/lang/StringUTF16", name := "getChars", desc := "(III[B)I" } : Jvm.MethodName) ∈ tb := tb_at 1834 (by decide +kernel) rfl
theorem q1835 : Cond.code ({ cls := "java/lang/StringUTF16", name := "getChars", desc := "(III[B)I" } : Jvm.MethodName) prog_32_method_77_code (5 : Nat) (Option.some Jvm.ClassFile.FieldType.int) ∈ tb := tb_at 1835 (by decide +kernel) rfl
theorem q1836 : Cond.methodLink "java/lang/StringUTF16" (393 : Nat) ({ cls := "java/lang/StringUTF16", name := "getChars", desc := "(II[B)I" } : Jvm.MethodName) ∈ tb := tb_at 1836 (by decide +kernel) rfl
theorem q1837 : Cond.static ({ cls := "java/lang/StringUTF16", name := "getChars", desc := "(II[B)I" } : Jvm.MethodName) ∈ tb := tb_at 1837 (by decide +kernel) rfl
theorem q1838 : Cond.code ({ cls := "java/lang/StringUTF16", name := "getChars", desc := "(II[B)I" } : Jvm.MethodName) prog_32_method_89_code (7 : Nat) (Option.some Jvm.ClassFile.FieldType.int) ∈ tb := tb_at 1838 (by decide +kernel) rfl
theorem q1839 : Cond.fieldLink "java/lang/StringUTF16" (403 : Nat) "java/lang/Integer" "DigitOnes" "[B" ∈ tb := tb_at 1839 (by decide +kernel) rfl
theorem q1840 : Cond.fieldLink "java/lang/StringUTF16" (407 : Nat) "java/lang/Integer" "DigitTens" "[B" ∈ tb := tb_at 1840 (by decide +kernel) rfl
theorem q1841 : Cond.stringRef "java/util/Arrays" (57 : Nat) ") > toIndex(" ∈ tb := tb_at 1841 (by decide +kernel) rfl
theorem q1842 : Cond.stringRef "java/util/Arrays" (59 : Nat) ")" ∈ tb := tb_at 1842 (by decide +kernel) rfl
theorem q1843 : Cond.methodLink "java/util/Arrays" (61 : Nat) ({ cls := "java/lang/StringBuilder", name := "toString", desc := "()Ljava/lang/String;" } : Jvm.MethodName) ∈ tb := tb_at 1843 (by decide +kernel) rfl
theorem q1844 : Cond.instanceMethod ({ cls := "java/lang/StringBuilder", name := "toString", desc := "()Ljava/lang/String;" } : Jvm.MethodName) ∈ tb := tb_at 1844 (by decide +kernel) rfl
theorem q1845 : Cond.selects "java/lang/StringBuilder" ({ cls := "java/lang/StringBuilder", name := "toString", desc := "()Ljava/lang/String;" } : Jvm.MethodName) ({ cls := "java/lang/StringBuilder", name := "toString", desc := "()Ljava/lang/String;" } : Jvm.MethodName) ∈ tb := tb_at 1845 (by decide +kernel) rfl
theorem q1846 : Cond.code ({ cls := "java/lang/StringBuilder", name := "toString", desc := "()Ljava/lang/String;" } : Jvm.MethodName) prog_30_method_42_code (1 : Nat) (Option.some (Jvm.ClassFile.FieldType.object "java/lang/String")) ∈ tb := tb_at 1846 (by decide +kernel) rfl
theorem q1847 : Cond.classLink "java/lang/StringBuilder" (18 : Nat) "java/lang/String" ∈ tb := tb_at 1847 (by decide +kernel) rfl
theorem q1848 : Cond.instantiable "java/lang/String" (4 : Nat) ∈ tb := tb_at 1848 (by decide +kernel) rfl
theorem q1849 : Cond.methodLink "java/lang/StringBuilder" (137 : Nat) ({ cls := "java/lang/String", name := "<init>", desc := "(Ljava/lang/StringBuilder;)V" } : Jvm.MethodName) ∈ tb := tb_at 1849 (by decide +kernel) rfl
theorem q1850 : Cond.instanceMethod ({ cls := "java/lang/String", name := "<init>", desc := "(Ljava/lang/StringBuilder;)V" } : Jvm.MethodName) ∈ tb := tb_at 1850 (by decide +kernel) rfl
theorem q1851 : Cond.code ({ cls := "java/lang/String", name := "<init>", desc := "(Ljava/lang/StringBuilder;)V" } : Jvm.MethodName) prog_29_method_53_code (2 : Nat) (Option.none : Option Jvm.ClassFile.FieldType) ∈ tb := tb_at 1851 (by decide +kernel) rfl
theorem q1852 : Cond.methodLink "java/lang/String" (489 : Nat) ({ cls := "java/lang/String", name := "<init>", desc := "(Ljava/lang/AbstractStringBuilder;Ljava/lang/Void;)V" } : Jvm.MethodName) ∈ tb := tb_at 1852 (by decide +kernel) rfl
theorem q1853 : Cond.instanceMethod ({ cls := "java/lang/String", name := "<init>", desc := "(Ljava/lang/AbstractStringBuilder;Ljava/lang/Void;)V" } : Jvm.MethodName) ∈ tb := tb_at 1853 (by decide +kernel) rfl
theorem q1854 : Cond.code ({ cls := "java/lang/String", name := "<init>", desc := "(Ljava/lang/AbstractStringBuilder;Ljava/lang/Void;)V" } : Jvm.MethodName) prog_29_method_150_code (5 : Nat) (Option.none : Option Jvm.ClassFile.FieldType) ∈ tb := tb_at 1854 (by decide +kernel) rfl
theorem q1855 : Cond.methodLink "java/lang/String" (1 : Nat) ({ cls := "java/lang/Object", name := "<init>", desc := "()V" } : Jvm.MethodName) ∈ tb := tb_at 1855 (by decide +kernel) rfl
theorem q1856 : Cond.methodLink "java/lang/String" (552 : Nat) ({ cls := "java/lang/AbstractStringBuilder", name := "getValue", desc := "()[B" } : Jvm.MethodName) ∈ tb := tb_at 1856 (by decide +kernel) rfl
theorem q1857 : Cond.instanceMethod ({ cls := "java/lang/AbstractStringBuilder", name := "getValue", desc := "()[B" } : Jvm.MethodName) ∈ tb := tb_at 1857 (by decide +kernel) rfl
theorem q1859 : Cond.selects "java/lang/StringBuilder" ({ cls := "java/lang/AbstractStringBuilder", name := "getValue", desc := "()[B" } : Jvm.MethodName) ({ cls := "java/lang/AbstractStringBuilder", name := "getValue", desc := "()[B" } : Jvm.MethodName) ∈ tb := tb_at 1859 (by decide +kernel) rfl
theorem q1860 : Cond.code ({ cls := "java/lang/AbstractStringBuilder", name := "getValue", desc := "()[B" } : Jvm.MethodName) prog_17_method_64_code (1 : Nat) (Option.some (Jvm.ClassFile.FieldType.array Jvm.ClassFile.FieldType.byte)) ∈ tb := tb_at 1860 (by decide +kernel) rfl
theorem q1861 : Cond.methodLink "java/lang/String" (549 : Nat) ({ cls := "java/lang/AbstractStringBuilder", name := "length", desc := "()I" } : Jvm.MethodName) ∈ tb := tb_at 1861 (by decide +kernel) rfl
theorem q1862 : Cond.methodLink "java/lang/String" (1047 : Nat) ({ cls := "java/lang/AbstractStringBuilder", name := "isLatin1", desc := "()Z" } : Jvm.MethodName) ∈ tb := tb_at 1862 (by decide +kernel) rfl
theorem q1863 : Cond.methodLink "java/lang/String" (54 : Nat) ({ cls := "java/util/Arrays", name := "copyOfRange", desc := "([BII)[B" } : Jvm.MethodName) ∈ tb := tb_at 1863 (by decide +kernel) rfl
theorem q1864 : Cond.static ({ cls := "java/util/Arrays", name := "copyOfRange", desc := "([BII)[B" } : Jvm.MethodName) ∈ tb := tb_at 1864 (by decide +kernel) rfl
theorem q1865 : Cond.code ({ cls := "java/util/Arrays", name := "copyOfRange", desc := "([BII)[B" } : Jvm.MethodName) prog_37_method_132_code (3 : Nat) (Option.some (Jvm.ClassFile.FieldType.array Jvm.ClassFile.FieldType.byte)) ∈ tb := tb_at 1865 (by decide +kernel) rfl
theorem q1866 : Cond.methodLink "java/util/Arrays" (339 : Nat) ({ cls := "java/util/Arrays", name := "copyOfRangeByte", desc := "([BII)[B" } : Jvm.MethodName) ∈ tb := tb_at 1866 (by decide +kernel) rfl
theorem q1867 : Cond.static ({ cls := "java/util/Arrays", name := "copyOfRangeByte", desc := "([BII)[B" } : Jvm.MethodName) ∈ tb := tb_at 1867 (by decide +kernel) rfl
theorem q1868 : Cond.code ({ cls := "java/util/Arrays", name := "copyOfRangeByte", desc := "([BII)[B" } : Jvm.MethodName) prog_37_method_133_code (5 : Nat) (Option.some (Jvm.ClassFile.FieldType.array Jvm.ClassFile.FieldType.byte)) ∈ tb := tb_at 1868 (by decide +kernel) rfl
theorem q1869 : Cond.methodLink "java/util/Arrays" (343 : Nat) ({ cls := "java/util/Arrays", name := "checkLength", desc := "(II)V" } : Jvm.MethodName) ∈ tb := tb_at 1869 (by decide +kernel) rfl
theorem q1870 : Cond.static ({ cls := "java/util/Arrays", name := "checkLength", desc := "(II)V" } : Jvm.MethodName) ∈ tb := tb_at 1870 (by decide +kernel) rfl
theorem q1871 : Cond.code ({ cls := "java/util/Arrays", name := "checkLength", desc := "(II)V" } : Jvm.MethodName) prog_37_method_131_code (2 : Nat) (Option.none : Option Jvm.ClassFile.FieldType) ∈ tb := tb_at 1871 (by decide +kernel) rfl
theorem q1872 : Cond.stringRef "java/util/Arrays" (337 : Nat) " > " ∈ tb := tb_at 1872 (by decide +kernel) rfl
theorem q1873 : Cond.methodLink "java/util/Arrays" (65 : Nat) ({ cls := "java/lang/IllegalArgumentException", name := "<init>", desc := "(Ljava/lang/String;)V" } : Jvm.MethodName) ∈ tb := tb_at 1873 (by decide +kernel) rfl
theorem q1874 : Cond.instanceMethod ({ cls := "java/lang/IllegalArgumentException", name := "<init>", desc := "(Ljava/lang/String;)V" } : Jvm.MethodName) ∈ tb := tb_at 1874 (by decide +kernel) rfl
theorem q1875 : Cond.code ({ cls := "java/lang/IllegalArgumentException", name := "<init>", desc := "(Ljava/lang/String;)V" } : Jvm.MethodName) prog_24_method_2_code (2 : Nat) (Option.none : Option Jvm.ClassFile.FieldType) ∈ tb := tb_at 1875 (by decide +kernel) rfl
theorem q1876 : Cond.methodLink "java/lang/IllegalArgumentException" (7 : Nat) ({ cls := "java/lang/RuntimeException", name := "<init>", desc := "(Ljava/lang/String;)V" } : Jvm.MethodName) ∈ tb := tb_at 1876 (by decide +kernel) rfl
theorem q1877 : Cond.instanceMethod ({ cls := "java/lang/RuntimeException", name := "<init>", desc := "(Ljava/lang/String;)V" } : Jvm.MethodName) ∈ tb := tb_at 1877 (by decide +kernel) rfl
theorem q1878 : Cond.code ({ cls := "java/lang/RuntimeException", name := "<init>", desc := "(Ljava/lang/String;)V" } : Jvm.MethodName) prog_28_method_2_code (2 : Nat) (Option.none : Option Jvm.ClassFile.FieldType) ∈ tb := tb_at 1878 (by decide +kernel) rfl
theorem q1879 : Cond.methodLink "java/lang/RuntimeException" (7 : Nat) ({ cls := "java/lang/Exception", name := "<init>", desc := "(Ljava/lang/String;)V" } : Jvm.MethodName) ∈ tb := tb_at 1879 (by decide +kernel) rfl
theorem q1880 : Cond.instanceMethod ({ cls := "java/lang/Exception", name := "<init>", desc := "(Ljava/lang/String;)V" } : Jvm.MethodName) ∈ tb := tb_at 1880 (by decide +kernel) rfl
theorem q1881 : Cond.code ({ cls := "java/lang/Exception", name := "<init>", desc := "(Ljava/lang/String;)V" } : Jvm.MethodName) prog_23_method_2_code (2 : Nat) (Option.none : Option Jvm.ClassFile.FieldType) ∈ tb := tb_at 1881 (by decide +kernel) rfl
theorem q1882 : Cond.methodLink "java/lang/Exception" (7 : Nat) ({ cls := "java/lang/Throwable", name := "<init>", desc := "(Ljava/lang/String;)V" } : Jvm.MethodName) ∈ tb := tb_at 1882 (by decide +kernel) rfl
theorem q1883 : Cond.instanceMethod ({ cls := "java/lang/Throwable", name := "<init>", desc := "(Ljava/lang/String;)V" } : Jvm.MethodName) ∈ tb := tb_at 1883 (by decide +kernel) rfl
theorem q1884 : Cond.code ({ cls := "java/lang/Throwable", name := "<init>", desc := "(Ljava/lang/String;)V" } : Jvm.MethodName) prog_34_method_2_code (2 : Nat) (Option.none : Option Jvm.ClassFile.FieldType) ∈ tb := tb_at 1884 (by decide +kernel) rfl
theorem q1885 : Cond.methodLink "java/lang/String" (1051 : Nat) ({ cls := "java/lang/StringUTF16", name := "compress", desc := "([BII)[B" } : Jvm.MethodName) ∈ tb := tb_at 1885 (by decide +kernel) rfl
theorem q1886 : Cond.static ({ cls := "java/lang/StringUTF16", name := "compress", desc := "([BII)[B" } : Jvm.MethodName) ∈ tb := tb_at 1886 (by decide +kernel) rfl
theorem q1887 : Cond.code ({ cls := "java/lang/StringUTF16", name := "compress", desc := "([BII)[B" } : Jvm.MethodName) prog_32_method_17_code (6 : Nat) (Option.some (Jvm.ClassFile.FieldType.array Jvm.ClassFile.FieldType.byte)) ∈ tb := tb_at 1887 (by decide +kernel) rfl
theorem q1888 : Cond.methodLink "java/lang/StringUTF16" (123 : Nat) ({ cls := "java/lang/StringUTF16", name := "compress", desc := "([BI[BII)I" } : Jvm.MethodName) ∈ tb := tb_at 1888 (by decide +kernel) rfl
theorem q1889 : Cond.static ({ cls := "java/lang/StringUTF16", name := "compress", desc := "([BI[BII)I" } : Jvm.MethodName) ∈ tb := tb_at 1889 (by decide +kernel) rfl
theorem q1890 : Cond.code ({ cls := "java/lang/StringUTF16", name := "compress", desc := "([BI[BII)I" } : Jvm.MethodName) prog_32_method_22_code (7 : Nat) (Option.some Jvm.ClassFile.FieldType.int) ∈ tb := tb_at 1890 (by decide +kernel) rfl
theorem q1891 : Cond.methodLink "java/lang/StringUTF16" (126 : Nat) ({ cls := "java/util/Arrays", name := "copyOfRange", desc := "([BII)[B" } : Jvm.MethodName) ∈ tb := tb_at 1891 (by decide +kernel) rfl
theorem q1892 : Cond.methodLink "java/lang/String" (47 : Nat) ({ cls := "java/lang/StringUTF16", name := "coderFromArrayLen", desc := "([BI)B" } : Jvm.MethodName) ∈ tb := tb_at 1892 (by decide +kernel) rfl
theorem q1893 : Cond.static ({ cls := "java/lang/StringUTF16", name := "coderFromArrayLen", desc := "([BI)B" } : Jvm.MethodName) ∈ tb := tb_at 1893 (by decide +kernel) rfl
theorem q1894 : Cond.code ({ cls := "java/lang/StringUTF16", name := "coderFromArrayLen", desc := "([BI)B" } : Jvm.MethodName) prog_32_method_15_code (2 : Nat) (Option.some Jvm.ClassFile.FieldType.byte) ∈ tb := tb_at 1894 (by decide +kernel) rfl
theorem q1895 : Cond.fieldLink "java/lang/String" (9 : Nat) "java/lang/String" "value" "[B" ∈ tb := tb_at 1895 (by decide +kernel) rfl
theorem q1896 : Cond.fieldLink "java/lang/String" (15 : Nat) "java/lang/String" "coder" "B" ∈ tb := tb_at 1896 (by decide +kernel) rfl
theorem q1897 : Cond.laysFinal "java/lang/String" "java/lang/String" "value" "[B" ∈ tb := tb_at 1897 (by decide +kernel) rfl
theorem q1899 : Cond.laysFinal "java/lang/String" "java/lang/String" "coder" "B" ∈ tb := tb_at 1899 (by decide +kernel) rfl
theorem q1901 : Cond.lays "java/lang/String" "java/lang/String" "hash" "I" ∈ tb := tb_at 1901 (by decide +kernel) rfl
theorem q1903 : Cond.lays "java/lang/String" "java/lang/String" "hashIsZero" "Z" ∈ tb := tb_at 1903 (by decide +kernel) rfl
theorem q1906 : Cond.methodLink "java/lang/AbstractStringBuilder" (137 : Nat) ({ cls := "java/lang/StringUTF16", name := "fillNull", desc := "([BII)V" } : Jvm.MethodName) ∈ tb := tb_at 1906 (by decide +kernel) rfl
theorem q1907 : Cond.static ({ cls := "java/lang/StringUTF16", name := "fillNull", desc := "([BII)V" } : Jvm.MethodName) ∈ tb := tb_at 1907 (by decide +kernel) rfl
theorem q1908 : Cond.code ({ cls := "java/lang/StringUTF16", name := "fillNull", desc := "([BII)V" } : Jvm.MethodName) prog_32_method_70_code (3 : Nat) (Option.none : Option Jvm.ClassFile.FieldType) ∈ tb := tb_at 1908 (by decide +kernel) rfl
theorem q1909 : Cond.methodLink "java/lang/StringUTF16" (380 : Nat) ({ cls := "java/util/Arrays", name := "fill", desc := "([BIIB)V" } : Jvm.MethodName) ∈ tb := tb_at 1909 (by decide +kernel) rfl
theorem q1910 : Cond.methodLink "PinEngines" (301 : Nat) ({ cls := "PinEngines$Program", name := "instructionAt", desc := "(I)LPinEngines$Instruction;" } : Jvm.MethodName) ∈ tb := tb_at 1910 (by decide +kernel) rfl
theorem q1911 : Cond.methodLink "PinEngines" (305 : Nat) ({ cls := "PinEngines$Instruction", name := "appendTo", desc := "(Ljava/lang/StringBuilder;)V" } : Jvm.MethodName) ∈ tb := tb_at 1911 (by decide +kernel) rfl
theorem q1912 : Cond.instanceMethod ({ cls := "PinEngines$Instruction", name := "appendTo", desc := "(Ljava/lang/StringBuilder;)V" } : Jvm.MethodName) ∈ tb := tb_at 1912 (by decide +kernel) rfl
theorem q1913 : Cond.selects "PinEngines$Instruction" ({ cls := "PinEngines$Instruction", name := "appendTo", desc := "(Ljava/lang/StringBuilder;)V" } : Jvm.MethodName) ({ cls := "PinEngines$Instruction", name := "appendTo", desc := "(Ljava/lang/StringBuilder;)V" } : Jvm.MethodName) ∈ tb := tb_at 1913 (by decide +kernel) rfl
theorem q1914 : Cond.code ({ cls := "PinEngines$Instruction", name := "appendTo", desc := "(Ljava/lang/StringBuilder;)V" } : Jvm.MethodName) prog_4_method_4_code (2 : Nat) (Option.none : Option Jvm.ClassFile.FieldType) ∈ tb := tb_at 1914 (by decide +kernel) rfl
theorem q1915 : Cond.methodLink "PinEngines$Instruction" (52 : Nat) ({ cls := "java/lang/StringBuilder", name := "append", desc := "(Ljava/lang/String;)Ljava/lang/StringBuilder;" } : Jvm.MethodName) ∈ tb := tb_at 1915 (by decide +kernel) rfl
theorem q1916 : Cond.methodLink "PinEngines$Instruction" (58 : Nat) ({ cls := "PinEngines$Instruction", name := "appendNumber", desc := "(Ljava/lang/StringBuilder;I)V" } : Jvm.MethodName) ∈ tb := tb_at 1916 (by decide +kernel) rfl
theorem q1917 : Cond.static ({ cls := "PinEngines$Instruction", name := "appendNumber", desc := "(Ljava/lang/StringBuilder;I)V" } : Jvm.MethodName) ∈ tb := tb_at 1917 (by decide +kernel) rfl
theorem q1918 : Cond.code ({ cls := "PinEngines$Instruction", name := "appendNumber", desc := "(Ljava/lang/StringBuilder;I)V" } : Jvm.MethodName) prog_4_method_6_code (2 : Nat) (Option.none : Option Jvm.ClassFile.FieldType) ∈ tb := tb_at 1918 (by decide +kernel) rfl
theorem q1919 : Cond.methodLink "PinEngines$Instruction" (72 : Nat) ({ cls := "java/lang/StringBuilder", name := "append", desc := "(C)Ljava/lang/StringBuilder;" } : Jvm.MethodName) ∈ tb := tb_at 1919 (by decide +kernel) rfl
theorem q1920 : Cond.instanceMethod ({ cls := "java/lang/StringBuilder", name := "append", desc := "(C)Ljava/lang/StringBuilder;" } : Jvm.MethodName) ∈ tb := tb_at 1920 (by decide +kernel) rfl
theorem q1921 : Cond.selects "java/lang/StringBuilder" ({ cls := "java/lang/StringBuilder", name := "append", desc := "(C)Ljava/lang/StringBuilder;" } : Jvm.MethodName) ({ cls := "java/lang/StringBuilder", name := "append", desc := "(C)Ljava/lang/StringBuilder;" } : Jvm.MethodName) ∈ tb := tb_at 1921 (by decide +kernel) rfl
theorem q1922 : Cond.code ({ cls := "java/lang/StringBuilder", name := "append", desc := "(C)Ljava/lang/StringBuilder;" } : Jvm.MethodName) prog_30_method_14_code (2 : Nat) (Option.some (Jvm.ClassFile.FieldType.object "java/lang/StringBuilder")) ∈ tb := tb_at 1922 (by decide +kernel) rfl
theorem q1923 : Cond.methodLink "java/lang/StringBuilder" (50 : Nat) ({ cls := "java/lang/AbstractStringBuilder", name := "append", desc := "(C)Ljava/lang/AbstractStringBuilder;" } : Jvm.MethodName) ∈ tb := tb_at 1923 (by decide +kernel) rfl
theorem q1924 : Cond.instanceMethod ({ cls := "java/lang/AbstractStringBuilder", name := "append", desc := "(C)Ljava/lang/AbstractStringBuilder;" } : Jvm.MethodName) ∈ tb := tb_at 1924 (by decide +kernel) rfl
theorem q1925 : Cond.code ({ cls := "java/lang/AbstractStringBuilder", name := "append", desc := "(C)Ljava/lang/AbstractStringBuilder;" } : Jvm.MethodName) prog_17_method_31_code (2 : Nat) (Option.some (Jvm.ClassFile.FieldType.object "java/lang/AbstractStringBuilder")) ∈ tb := tb_at 1925 (by decide +kernel) rfl
theorem q1926 : Cond.methodLink "java/lang/AbstractStringBuilder" (191 : Nat) ({ cls := "java/lang/StringLatin1", name := "canEncode", desc := "(C)Z" } : Jvm.MethodName) ∈ tb := tb_at 1926 (by decide +kernel) rfl
theorem q1927 : Cond.static ({ cls := "java/lang/StringLatin1", name := "canEncode", desc := "(C)Z" } : Jvm.MethodName) ∈ tb := tb_at 1927 (by decide +kernel) rfl
theorem q1928 : Cond.code ({ cls := "java/lang/StringLatin1", name := "canEncode", desc := "(C)Z" } : Jvm.MethodName) prog_31_method_3_code (1 : Nat) (Option.some Jvm.ClassFile.FieldType.boolean) ∈ tb := tb_at 1928 (by decide +kernel) rfl
theorem q1929 : Cond.methodLink "java/lang/AbstractStringBuilder" (197 : Nat) ({ cls := "java/lang/StringUTF16", name := "putCharSB", desc := "([BII)V" } : Jvm.MethodName) ∈ tb := tb_at 1929 (by decide +kernel) rfl
theorem q1930 : Cond.static ({ cls := "java/lang/StringUTF16", name := "putCharSB", desc := "([BII)V" } : Jvm.MethodName) ∈ tb := tb_at 1930 (by decide +kernel) rfl
theorem q1931 : Cond.code ({ cls := "java/lang/StringUTF16", name := "putCharSB", desc := "([BII)V" } : Jvm.MethodName) prog_32_method_71_code (3 : Nat) (Option.none : Option Jvm.ClassFile.FieldType) ∈ tb := tb_at 1931 (by decide +kernel) rfl
theorem q1932 : Cond.methodLink "PinEngines$Instruction" (75 : Nat) ({ cls := "java/lang/StringBuilder", name := "append", desc := "(I)Ljava/lang/StringBuilder;" } : Jvm.MethodName) ∈ tb := tb_at 1932 (by decide +kernel) rfl
theorem q1933 : Cond.methodLink "PinEngines$Instruction" (62 : Nat) ({ cls := "PinEngines$Instruction", name := "appendWord", desc := "(Ljava/lang/StringBuilder;LPinEngines$Symbol;)V" } : Jvm.MethodName) ∈ tb := tb_at 1933 (by decide +kernel) rfl
theorem q1934 : Cond.static ({ cls := "PinEngines$Instruction", name := "appendWord", desc := "(Ljava/lang/StringBuilder;LPinEngines$Symbol;)V" } : Jvm.MethodName) ∈ tb := tb_at 1934 (by decide +kernel) rfl
theorem q1935 : Cond.code ({ cls := "PinEngines$Instruction", name := "appendWord", desc := "(Ljava/lang/StringBuilder;LPinEngines$Symbol;)V" } : Jvm.MethodName) prog_4_method_5_code (2 : Nat) (Option.none : Option Jvm.ClassFile.FieldType) ∈ tb := tb_at 1935 (by decide +kernel) rfl
theorem q1936 : Cond.fieldLink "PinEngines$Instruction" (66 : Nat) "PinEngines$Symbol" "SIDE" "LPinEngines$Symbol;" ∈ tb := tb_at 1936 (by decide +kernel) rfl
theorem q1937 : Cond.fieldLink "PinEngines$Instruction" (69 : Nat) "PinEngines$Symbol" "DELAY" "LPinEngines$Symbol;" ∈ tb := tb_at 1937 (by decide +kernel) rfl
theorem q1938 : Cond.methodLink "PinEnginesLaw" (283 : Nat) ({ cls := "PinEnginesLaw", name := "query", desc := "(LPinEngines;I[J)I" } : Jvm.MethodName) ∈ tb := tb_at 1938 (by decide +kernel) rfl
theorem q1939 : Cond.static ({ cls := "PinEnginesLaw", name := "query", desc := "(LPinEngines;I[J)I" } : Jvm.MethodName) ∈ tb := tb_at 1939 (by decide +kernel) rfl
theorem q1941 : Cond.methodLink "PinEnginesLaw" (120 : Nat) ({ cls := "PinEngines", name := "query", desc := "(I)I" } : Jvm.MethodName) ∈ tb := tb_at 1941 (by decide +kernel) rfl
theorem q1942 : Cond.instanceMethod ({ cls := "PinEngines", name := "query", desc := "(I)I" } : Jvm.MethodName) ∈ tb := tb_at 1942 (by decide +kernel) rfl
theorem q1943 : Cond.selects "PinEngines" ({ cls := "PinEngines", name := "query", desc := "(I)I" } : Jvm.MethodName) ({ cls := "PinEngines", name := "query", desc := "(I)I" } : Jvm.MethodName) ∈ tb := tb_at 1943 (by decide +kernel) rfl
theorem q1944 : Cond.code ({ cls := "PinEngines", name := "query", desc := "(I)I" } : Jvm.MethodName) prog_1_method_46_code (4 : Nat) (Option.some Jvm.ClassFile.FieldType.int) ∈ tb := tb_at 1944 (by decide +kernel) rfl
theorem q1945 : Cond.methodLink "PinEngines" (318 : Nat) ({ cls := "PinEngines$Tokens", name := "takeRole", desc := "(I)LPinEngines$Symbol;" } : Jvm.MethodName) ∈ tb := tb_at 1945 (by decide +kernel) rfl
theorem q1948 : Cond.instanceMethod ({ cls := "PinEngines$QueryReader", name := "readTest", desc := "(I)I" } : Jvm.MethodName) ∈ tb := tb_at 1948 (by decide +kernel) rfl
theorem q1949 : Cond.code ({ cls := "PinEngines$QueryReader", name := "readTest", desc := "(I)I" } : Jvm.MethodName) prog_8_method_2_code (4 : Nat) (Option.some Jvm.ClassFile.FieldType.int) ∈ tb := tb_at 1949 (by decide +kernel) rfl
theorem q1950 : Cond.methodLink "PinEngines$QueryReader" (26 : Nat) ({ cls := "PinEngines$QueryReader", name := "readConjunction", desc := "(I)I" } : Jvm.MethodName) ∈ tb := tb_at 1950 (by decide +kernel) rfl
theorem q1952 : Cond.instanceMethod ({ cls := "PinEngines$QueryReader", name := "readConjunction", desc := "(I)I" } : Jvm.MethodName) ∈ tb := tb_at 1952 (by decide +kernel) rfl
theorem q1953 : Cond.code ({ cls := "PinEngines$QueryReader", name := "readConjunction", desc := "(I)I" } : Jvm.MethodName) prog_8_method_3_code (4 : Nat) (Option.some Jvm.ClassFile.FieldType.int) ∈ tb := tb_at 1953 (by decide +kernel) rfl
theorem q1954 : Cond.methodLink "PinEngines$QueryReader" (42 : Nat) ({ cls := "PinEngines$QueryReader", name := "readFactor", desc := "(I)I" } : Jvm.MethodName) ∈ tb := tb_at 1954 (by decide +kernel) rfl
theorem q1956 : Cond.instanceMethod ({ cls := "PinEngines$QueryReader", name := "readFactor", desc := "(I)I" } : Jvm.MethodName) ∈ tb := tb_at 1956 (by decide +kernel) rfl
theorem q1957 : Cond.code ({ cls := "PinEngines$QueryReader", name := "readFactor", desc := "(I)I" } : Jvm.MethodName) prog_8_method_4_code (3 : Nat) (Option.some Jvm.ClassFile.FieldType.int) ∈ tb := tb_at 1957 (by decide +kernel) rfl
theorem q1958 : Cond.fieldLink "PinEngines$QueryReader" (48 : Nat) "PinEngines$Symbol" "NOT" "LPinEngines$Symbol;" ∈ tb := tb_at 1958 (by decide +kernel) rfl
theorem q1959 : Cond.methodLink "PinEngines$QueryReader" (51 : Nat) ({ cls := "PinEngines$Tokens", name := "at", desc := "(LPinEngines$Symbol;)Z" } : Jvm.MethodName) ∈ tb := tb_at 1959 (by decide +kernel) rfl
theorem q1960 : Cond.fieldLink "PinEngines$QueryReader" (54 : Nat) "PinEngines$Symbol" "OPEN" "LPinEngines$Symbol;" ∈ tb := tb_at 1960 (by decide +kernel) rfl
theorem q1962 : Cond.methodLink "PinEngines$QueryReader" (57 : Nat) ({ cls := "PinEngines$QueryReader", name := "readComparison", desc := "()I" } : Jvm.MethodName) ∈ tb := tb_at 1962 (by decide +kernel) rfl
theorem q1964 : Cond.instanceMethod ({ cls := "PinEngines$QueryReader", name := "readComparison", desc := "()I" } : Jvm.MethodName) ∈ tb := tb_at 1964 (by decide +kernel) rfl
theorem q1965 : Cond.code ({ cls := "PinEngines$QueryReader", name := "readComparison", desc := "()I" } : Jvm.MethodName) prog_8_method_5_code (4 : Nat) (Option.some Jvm.ClassFile.FieldType.int) ∈ tb := tb_at 1965 (by decide +kernel) rfl
theorem q1966 : Cond.methodLink "PinEngines$QueryReader" (75 : Nat) ({ cls := "PinEngines$QueryReader", name := "readValue", desc := "([I)V" } : Jvm.MethodName) ∈ tb := tb_at 1966 (by decide +kernel) rfl
theorem q1968 : Cond.instanceMethod ({ cls := "PinEngines$QueryReader", name := "readValue", desc := "([I)V" } : Jvm.MethodName) ∈ tb := tb_at 1968 (by decide +kernel) rfl
theorem q1969 : Cond.code ({ cls := "PinEngines$QueryReader", name := "readValue", desc := "([I)V" } : Jvm.MethodName) prog_8_method_7_code (5 : Nat) (Option.none : Option Jvm.ClassFile.FieldType) ∈ tb := tb_at 1969 (by decide +kernel) rfl
theorem q1970 : Cond.methodLink "PinEngines$QueryReader" (94 : Nat) ({ cls := "PinEngines$Tokens", name := "takeOptional", desc := "(I)LPinEngines$Symbol;" } : Jvm.MethodName) ∈ tb := tb_at 1970 (by decide +kernel) rfl
theorem q1971 : Cond.fieldLink "PinEngines$QueryReader" (97 : Nat) "PinEngines$Symbol" "NOTHING" "LPinEngines$Symbol;" ∈ tb := tb_at 1971 (by decide +kernel) rfl
theorem q1972 : Cond.constant "PinEngines$QueryReader" (100 : Nat) (99999 : Int32) ∈ tb := tb_at 1972 (by decide +kernel) rfl
theorem q1973 : Cond.methodLink "PinEngines$QueryReader" (101 : Nat) ({ cls := "PinEngines$Tokens", name := "takeNumber", desc := "(II)I" } : Jvm.MethodName) ∈ tb := tb_at 1973 (by decide +kernel) rfl
theorem q1974 : Cond.methodLink "PinEngines$QueryReader" (105 : Nat) ({ cls := "PinEngines$QueryReader", name := "propertyOf", desc := "(ILPinEngines$Symbol;)I" } : Jvm.MethodName) ∈ tb := tb_at 1974 (by decide +kernel) rfl
theorem q1976 : Cond.instanceMethod ({ cls := "PinEngines$QueryReader", name := "propertyOf", desc := "(ILPinEngines$Symbol;)I" } : Jvm.MethodName) ∈ tb := tb_at 1976 (by decide +kernel) rfl
theorem q1977 : Cond.code ({ cls := "PinEngines$QueryReader", name := "propertyOf", desc := "(ILPinEngines$Symbol;)I" } : Jvm.MethodName) prog_8_method_8_code (4 : Nat) (Option.some Jvm.ClassFile.FieldType.int) ∈ tb := tb_at 1977 (by decide +kernel) rfl
theorem q1978 : Cond.fieldLink "PinEngines$QueryReader" (115 : Nat) "PinEngines$1" "$SwitchMap$PinEngines$Symbol" "[I" ∈ tb := tb_at 1978 (by decide +kernel) rfl
theorem q1979 : Cond.methodLink "PinEngines$QueryReader" (120 : Nat) ({ cls := "PinEngines$Symbol", name := "ordinal", desc := "()I" } : Jvm.MethodName) ∈ tb := tb_at 1979 (by decide +kernel) rfl
theorem q1980 : Cond.constant "PinEngines$QueryReader" (79 : Nat) (32768 : Int32) ∈ tb := tb_at 1980 (by decide +kernel) rfl
theorem q1981 : Cond.methodLink "PinEngines$QueryReader" (80 : Nat) ({ cls := "PinEngines$Tokens", name := "takeRole", desc := "(I)LPinEngines$Symbol;" } : Jvm.MethodName) ∈ tb := tb_at 1981 (by decide +kernel) rfl
theorem q1982 : Cond.methodLink "PinEngines$QueryReader" (84 : Nat) ({ cls := "PinEngines$QueryReader", name := "compares", desc := "(ILPinEngines$Symbol;I)Z" } : Jvm.MethodName) ∈ tb := tb_at 1982 (by decide +kernel) rfl
theorem q1983 : Cond.static ({ cls := "PinEngines$QueryReader", name := "compares", desc := "(ILPinEngines$Symbol;I)Z" } : Jvm.MethodName) ∈ tb := tb_at 1983 (by decide +kernel) rfl
theorem q1984 : Cond.code ({ cls := "PinEngines$QueryReader", name := "compares", desc := "(ILPinEngines$Symbol;I)Z" } : Jvm.MethodName) prog_8_method_6_code (3 : Nat) (Option.some Jvm.ClassFile.FieldType.boolean) ∈ tb := tb_at 1984 (by decide +kernel) rfl
theorem q1985 : Cond.fieldLink "PinEngines$QueryReader" (88 : Nat) "PinEngines$Symbol" "LESS" "LPinEngines$Symbol;" ∈ tb := tb_at 1985 (by decide +kernel) rfl
theorem q1987 : Cond.fieldLink "PinEngines$QueryReader" (91 : Nat) "PinEngines$Symbol" "GREATER" "LPinEngines$Symbol;" ∈ tb := tb_at 1987 (by decide +kernel) rfl
theorem q1989 : Cond.methodLink "PinEngines$QueryReader" (61 : Nat) ({ cls := "PinEngines$Tokens", name := "fail", desc := "(I)V" } : Jvm.MethodName) ∈ tb := tb_at 1989 (by decide +kernel) rfl
theorem q1990 : Cond.methodLink "PinEngines$QueryReader" (36 : Nat) ({ cls := "PinEngines$Tokens", name := "skip", desc := "(LPinEngines$Symbol;)Z" } : Jvm.MethodName) ∈ tb := tb_at 1990 (by decide +kernel) rfl
theorem q1991 : Cond.methodLink "PinEngines$QueryReader" (65 : Nat) ({ cls := "PinEngines$QueryReader", name := "readTest", desc := "(I)I" } : Jvm.MethodName) ∈ tb := tb_at 1991 (by decide +kernel) rfl
theorem q1992 : Cond.fieldLink "PinEngines$QueryReader" (68 : Nat) "PinEngines$Symbol" "CLOSE" "LPinEngines$Symbol;" ∈ tb := tb_at 1992 (by decide +kernel) rfl
theorem q1994 : Cond.methodLink "PinEngines$QueryReader" (71 : Nat) ({ cls := "PinEngines$Tokens", name := "expect", desc := "(LPinEngines$Symbol;)V" } : Jvm.MethodName) ∈ tb := tb_at 1994 (by decide +kernel) rfl
theorem q1995 : Cond.fieldLink "PinEngines$QueryReader" (45 : Nat) "PinEngines$Symbol" "AND" "LPinEngines$Symbol;" ∈ tb := tb_at 1995 (by decide +kernel) rfl
theorem q1997 : Cond.fieldLink "PinEngines$QueryReader" (30 : Nat) "PinEngines$Symbol" "OR" "LPinEngines$Symbol;" ∈ tb := tb_at 1997 (by decide +kernel) rfl
theorem q1999 : Cond.methodLink "PinEngines" (325 : Nat) ({ cls := "PinEngines$Tokens", name := "expectEnd", desc := "()V" } : Jvm.MethodName) ∈ tb := tb_at 1999 (by decide +kernel) rfl
theorem q2000 : Cond.instanceMethod ({ cls := "PinEngines$Tokens", name := "expectEnd", desc := "()V" } : Jvm.MethodName) ∈ tb := tb_at 2000 (by decide +kernel) rfl
theorem q2001 : Cond.selects "PinEngines$Tokens" ({ cls := "PinEngines$Tokens", name := "expectEnd", desc := "()V" } : Jvm.MethodName) ({ cls := "PinEngines$Tokens", name := "expectEnd", desc := "()V" } : Jvm.MethodName) ∈ tb := tb_at 2001 (by decide +kernel) rfl
theorem q2002 : Cond.code ({ cls := "PinEngines$Tokens", name := "expectEnd", desc := "()V" } : Jvm.MethodName) prog_13_method_11_code (1 : Nat) (Option.none : Option Jvm.ClassFile.FieldType) ∈ tb := tb_at 2002 (by decide +kernel) rfl
theorem q2003 : Cond.constant "PinEngines" (328 : Nat) (-1000000000 : Int32) ∈ tb := tb_at 2003 (by decide +kernel) rfl
theorem q2004 : Cond.fieldLink "PinEngines" (329 : Nat) "PinEngines$Symbol" "MANY" "LPinEngines$Symbol;" ∈ tb := tb_at 2004 (by decide +kernel) rfl
theorem q2006 : Cond.methodLink "PinEngines" (335 : Nat) ({ cls := "java/lang/Integer", name := "bitCount", desc := "(I)I" } : Jvm.MethodName) ∈ tb := tb_at 2006 (by decide +kernel) rfl
theorem q2007 : Cond.static ({ cls := "java/lang/Integer", name := "bitCount", desc := "(I)I" } : Jvm.MethodName) ∈ tb := tb_at 2007 (by decide +kernel) rfl
theorem q2008 : Cond.code ({ cls := "java/lang/Integer", name := "bitCount", desc := "(I)I" } : Jvm.MethodName) prog_25_method_49_code (1 : Nat) (Option.some Jvm.ClassFile.FieldType.int) ∈ tb := tb_at 2008 (by decide +kernel) rfl
theorem q2009 : Cond.methodLink "PinEngines" (340 : Nat) ({ cls := "PinEngines", name := "firstEngine", desc := "(I)I" } : Jvm.MethodName) ∈ tb := tb_at 2009 (by decide +kernel) rfl
theorem q2010 : Cond.static ({ cls := "PinEngines", name := "firstEngine", desc := "(I)I" } : Jvm.MethodName) ∈ tb := tb_at 2010 (by decide +kernel) rfl
theorem q2011 : Cond.code ({ cls := "PinEngines", name := "firstEngine", desc := "(I)I" } : Jvm.MethodName) prog_1_method_50_code (2 : Nat) (Option.some Jvm.ClassFile.FieldType.int) ∈ tb := tb_at 2011 (by decide +kernel) rfl
theorem q2012 : Cond.classLink "PinEnginesLaw" (124 : Nat) "PinEnginesModel" ∈ tb := tb_at 2012 (by decide +kernel) rfl
theorem q2013 : Cond.instantiable "PinEnginesModel" (47 : Nat) ∈ tb := tb_at 2013 (by decide +kernel) rfl
theorem q2014 : Cond.methodLink "PinEnginesLaw" (126 : Nat) ({ cls := "PinEnginesModel", name := "<init>", desc := "()V" } : Jvm.MethodName) ∈ tb := tb_at 2014 (by decide +kernel) rfl
theorem q2015 : Cond.instanceMethod ({ cls := "PinEnginesModel", name := "<init>", desc := "()V" } : Jvm.MethodName) ∈ tb := tb_at 2015 (by decide +kernel) rfl
theorem q2016 : Cond.code ({ cls := "PinEnginesModel", name := "<init>", desc := "()V" } : Jvm.MethodName) prog_15_method_1_code (1 : Nat) (Option.none : Option Jvm.ClassFile.FieldType) ∈ tb := tb_at 2016 (by decide +kernel) rfl
theorem q2017 : Cond.methodLink "PinEnginesModel" (1 : Nat) ({ cls := "java/lang/Object", name := "<init>", desc := "()V" } : Jvm.MethodName) ∈ tb := tb_at 2017 (by decide +kernel) rfl
theorem q2018 : Cond.classLink "PinEnginesModel" (57 : Nat) "java/lang/String" ∈ tb := tb_at 2018 (by decide +kernel) rfl
theorem q2020 : Cond.stringRef "PinEnginesModel" (59 : Nat) "jmp" ∈ tb := tb_at 2020 (by decide +kernel) rfl
theorem q2021 : Cond.stringRef "PinEnginesModel" (61 : Nat) "wait" ∈ tb := tb_at 2021 (by decide +kernel) rfl
theorem q2022 : Cond.stringRef "PinEnginesModel" (63 : Nat) "in" ∈ tb := tb_at 2022 (by decide +kernel) rfl
theorem q2023 : Cond.stringRef "PinEnginesModel" (65 : Nat) "out" ∈ tb := tb_at 2023 (by decide +kernel) rfl
theorem q2024 : Cond.stringRef "PinEnginesModel" (67 : Nat) "push" ∈ tb := tb_at 2024 (by decide +kernel) rfl
theorem q2025 : Cond.stringRef "PinEnginesModel" (69 : Nat) "pull" ∈ tb := tb_at 2025 (by decide +kernel) rfl
theorem q2026 : Cond.stringRef "PinEnginesModel" (71 : Nat) "mov" ∈ tb := tb_at 2026 (by decide +kernel) rfl
theorem q2027 : Cond.stringRef "PinEnginesModel" (73 : Nat) "raise" ∈ tb := tb_at 2027 (by decide +kernel) rfl
theorem q2028 : Cond.stringRef "PinEnginesModel" (75 : Nat) "clear" ∈ tb := tb_at 2028 (by decide +kernel) rfl
theorem q2029 : Cond.stringRef "PinEnginesModel" (77 : Nat) "signal" ∈ tb := tb_at 2029 (by decide +kernel) rfl
theorem q2030 : Cond.stringRef "PinEnginesModel" (79 : Nat) "set" ∈ tb := tb_at 2030 (by decide +kernel) rfl
theorem q2031 : Cond.stringRef "PinEnginesModel" (81 : Nat) "load" ∈ tb := tb_at 2031 (by decide +kernel) rfl
theorem q2032 : Cond.stringRef "PinEnginesModel" (83 : Nat) "store" ∈ tb := tb_at 2032 (by decide +kernel) rfl
theorem q2033 : Cond.stringRef "PinEnginesModel" (89 : Nat) "" ∈ tb := tb_at 2033 (by decide +kernel) rfl
theorem q2034 : Cond.stringRef "PinEnginesModel" (91 : Nat) "xzero" ∈ tb := tb_at 2034 (by decide +kernel) rfl
theorem q2035 : Cond.stringRef "PinEnginesModel" (93 : Nat) "yzero" ∈ tb := tb_at 2035 (by decide +kernel) rfl
theorem q2036 : Cond.stringRef "PinEnginesModel" (95 : Nat) "xdec" ∈ tb := tb_at 2036 (by decide +kernel) rfl
theorem q2037 : Cond.stringRef "PinEnginesModel" (97 : Nat) "ydec" ∈ tb := tb_at 2037 (by decide +kernel) rfl
theorem q2038 : Cond.stringRef "PinEnginesModel" (99 : Nat) "differ" ∈ tb := tb_at 2038 (by decide +kernel) rfl
theorem q2039 : Cond.stringRef "PinEnginesModel" (101 : Nat) "pin" ∈ tb := tb_at 2039 (by decide +kernel) rfl
theorem q2040 : Cond.stringRef "PinEnginesModel" (103 : Nat) "more" ∈ tb := tb_at 2040 (by decide +kernel) rfl
theorem q2041 : Cond.stringRef "PinEnginesModel" (108 : Nat) "pins" ∈ tb := tb_at 2041 (by decide +kernel) rfl
theorem q2042 : Cond.stringRef "PinEnginesModel" (110 : Nat) "x" ∈ tb := tb_at 2042 (by decide +kernel) rfl
theorem q2043 : Cond.stringRef "PinEnginesModel" (112 : Nat) "y" ∈ tb := tb_at 2043 (by decide +kernel) rfl
theorem q2044 : Cond.stringRef "PinEnginesModel" (114 : Nat) "null" ∈ tb := tb_at 2044 (by decide +kernel) rfl
theorem q2045 : Cond.stringRef "PinEnginesModel" (116 : Nat) "isr" ∈ tb := tb_at 2045 (by decide +kernel) rfl
theorem q2046 : Cond.stringRef "PinEnginesModel" (118 : Nat) "osr" ∈ tb := tb_at 2046 (by decide +kernel) rfl
theorem q2047 : Cond.stringRef "PinEnginesModel" (120 : Nat) "status" ∈ tb := tb_at 2047 (by decide +kernel) rfl
theorem q2048 : Cond.stringRef "PinEnginesModel" (122 : Nat) "dirs" ∈ tb := tb_at 2048 (by decide +kernel) rfl
theorem q2049 : Cond.stringRef "PinEnginesModel" (124 : Nat) "pc" ∈ tb := tb_at 2049 (by decide +kernel) rfl
theorem q2050 : Cond.stringRef "PinEnginesModel" (129 : Nat) "engine" ∈ tb := tb_at 2050 (by decide +kernel) rfl
theorem q2051 : Cond.stringRef "PinEnginesModel" (131 : Nat) "start" ∈ tb := tb_at 2051 (by decide +kernel) rfl
theorem q2052 : Cond.stringRef "PinEnginesModel" (133 : Nat) "level" ∈ tb := tb_at 2052 (by decide +kernel) rfl
theorem q2053 : Cond.stringRef "PinEnginesModel" (135 : Nat) "side" ∈ tb := tb_at 2053 (by decide +kernel) rfl
theorem q2054 : Cond.stringRef "PinEnginesModel" (137 : Nat) "delay" ∈ tb := tb_at 2054 (by decide +kernel) rfl
theorem q2055 : Cond.stringRef "PinEnginesModel" (139 : Nat) "clock" ∈ tb := tb_at 2055 (by decide +kernel) rfl
theorem q2056 : Cond.stringRef "PinEnginesModel" (141 : Nat) "wrap" ∈ tb := tb_at 2056 (by decide +kernel) rfl
theorem q2057 : Cond.stringRef "PinEnginesModel" (143 : Nat) "outpins" ∈ tb := tb_at 2057 (by decide +kernel) rfl
theorem q2058 : Cond.stringRef "PinEnginesModel" (145 : Nat) "setpins" ∈ tb := tb_at 2058 (by decide +kernel) rfl
theorem q2059 : Cond.stringRef "PinEnginesModel" (147 : Nat) "sidepins" ∈ tb := tb_at 2059 (by decide +kernel) rfl
theorem q2060 : Cond.stringRef "PinEnginesModel" (149 : Nat) "inpins" ∈ tb := tb_at 2060 (by decide +kernel) rfl
theorem q2061 : Cond.stringRef "PinEnginesModel" (151 : Nat) "jumppin" ∈ tb := tb_at 2061 (by decide +kernel) rfl
theorem q2062 : Cond.stringRef "PinEnginesModel" (153 : Nat) "inleft" ∈ tb := tb_at 2062 (by decide +kernel) rfl
theorem q2063 : Cond.stringRef "PinEnginesModel" (155 : Nat) "outleft" ∈ tb := tb_at 2063 (by decide +kernel) rfl
theorem q2064 : Cond.stringRef "PinEnginesModel" (157 : Nat) "autopush" ∈ tb := tb_at 2064 (by decide +kernel) rfl
theorem q2065 : Cond.stringRef "PinEnginesModel" (159 : Nat) "autopull" ∈ tb := tb_at 2065 (by decide +kernel) rfl
theorem q2066 : Cond.stringRef "PinEnginesModel" (161 : Nat) "joinin" ∈ tb := tb_at 2066 (by decide +kernel) rfl
theorem q2067 : Cond.stringRef "PinEnginesModel" (163 : Nat) "joinout" ∈ tb := tb_at 2067 (by decide +kernel) rfl
theorem q2068 : Cond.stringRef "PinEnginesModel" (165 : Nat) "flag" ∈ tb := tb_at 2068 (by decide +kernel) rfl
theorem q2069 : Cond.stringRef "PinEnginesModel" (167 : Nat) "iffull" ∈ tb := tb_at 2069 (by decide +kernel) rfl
theorem q2070 : Cond.stringRef "PinEnginesModel" (169 : Nat) "noblock" ∈ tb := tb_at 2070 (by decide +kernel) rfl
theorem q2071 : Cond.stringRef "PinEnginesModel" (171 : Nat) "ifempty" ∈ tb := tb_at 2071 (by decide +kernel) rfl
theorem q2072 : Cond.stringRef "PinEnginesModel" (173 : Nat) "not" ∈ tb := tb_at 2072 (by decide +kernel) rfl
theorem q2073 : Cond.stringRef "PinEnginesModel" (175 : Nat) "reverse" ∈ tb := tb_at 2073 (by decide +kernel) rfl
theorem q2074 : Cond.stringRef "PinEnginesModel" (177 : Nat) "many" ∈ tb := tb_at 2074 (by decide +kernel) rfl
theorem q2075 : Cond.stringRef "PinEnginesModel" (179 : Nat) "first" ∈ tb := tb_at 2075 (by decide +kernel) rfl
theorem q2076 : Cond.stringRef "PinEnginesModel" (181 : Nat) "or" ∈ tb := tb_at 2076 (by decide +kernel) rfl
theorem q2077 : Cond.stringRef "PinEnginesModel" (183 : Nat) "and" ∈ tb := tb_at 2077 (by decide +kernel) rfl
theorem q2078 : Cond.stringRef "PinEnginesModel" (185 : Nat) "fill" ∈ tb := tb_at 2078 (by decide +kernel) rfl
theorem q2079 : Cond.stringRef "PinEnginesModel" (187 : Nat) "spent" ∈ tb := tb_at 2079 (by decide +kernel) rfl
theorem q2080 : Cond.stringRef "PinEnginesModel" (189 : Nat) "stall" ∈ tb := tb_at 2080 (by decide +kernel) rfl
theorem q2081 : Cond.stringRef "PinEnginesModel" (191 : Nat) "input" ∈ tb := tb_at 2081 (by decide +kernel) rfl
theorem q2082 : Cond.stringRef "PinEnginesModel" (193 : Nat) "output" ∈ tb := tb_at 2082 (by decide +kernel) rfl
theorem q2083 : Cond.methodLink "PinEnginesModel" (228 : Nat) ({ cls := "PinEnginesModel", name := "clear", desc := "([I)V" } : Jvm.MethodName) ∈ tb := tb_at 2083 (by decide +kernel) rfl
theorem q2084 : Cond.static ({ cls := "PinEnginesModel", name := "clear", desc := "([I)V" } : Jvm.MethodName) ∈ tb := tb_at 2084 (by decide +kernel) rfl
theorem q2085 : Cond.code ({ cls := "PinEnginesModel", name := "clear", desc := "([I)V" } : Jvm.MethodName) prog_15_method_5_code (2 : Nat) (Option.none : Option Jvm.ClassFile.FieldType) ∈ tb := tb_at 2085 (by decide +kernel) rfl
theorem q2086 : Cond.fieldLink "PinEnginesModel" (9 : Nat) "PinEnginesModel" "now" "[I" ∈ tb := tb_at 2086 (by decide +kernel) rfl
theorem q2087 : Cond.fieldLink "PinEnginesModel" (13 : Nat) "PinEnginesModel" "draft" "[I" ∈ tb := tb_at 2087 (by decide +kernel) rfl
theorem q2088 : Cond.fieldLink "PinEnginesModel" (16 : Nat) "PinEnginesModel" "kept" "[I" ∈ tb := tb_at 2088 (by decide +kernel) rfl
theorem q2089 : Cond.fieldLink "PinEnginesModel" (19 : Nat) "PinEnginesModel" "snapshot" "[I" ∈ tb := tb_at 2089 (by decide +kernel) rfl
theorem q2090 : Cond.fieldLink "PinEnginesModel" (22 : Nat) "PinEnginesModel" "history" "[I" ∈ tb := tb_at 2090 (by decide +kernel) rfl
theorem q2091 : Cond.fieldLink "PinEnginesModel" (459 : Nat) "PinEnginesModel" "undoCount" "I" ∈ tb := tb_at 2091 (by decide +kernel) rfl
theorem q2092 : Cond.fieldLink "PinEnginesModel" (231 : Nat) "PinEnginesModel" "thrown" "I" ∈ tb := tb_at 2092 (by decide +kernel) rfl
theorem q2093 : Cond.fieldLink "PinEnginesModel" (462 : Nat) "PinEnginesModel" "hasSnapshot" "Z" ∈ tb := tb_at 2093 (by decide +kernel) rfl
theorem q2094 : Cond.fieldLink "PinEnginesModel" (25 : Nat) "PinEnginesModel" "levels" "[I" ∈ tb := tb_at 2094 (by decide +kernel) rfl
theorem q2095 : Cond.fieldLink "PinEnginesModel" (28 : Nat) "PinEnginesModel" "flags" "[I" ∈ tb := tb_at 2095 (by decide +kernel) rfl
theorem q2096 : Cond.fieldLink "PinEnginesModel" (31 : Nat) "PinEnginesModel" "hasTick" "[Z" ∈ tb := tb_at 2096 (by decide +kernel) rfl
theorem q2097 : Cond.fieldLink "PinEnginesModel" (35 : Nat) "PinEnginesModel" "written" "[I" ∈ tb := tb_at 2097 (by decide +kernel) rfl
theorem q2098 : Cond.fieldLink "PinEnginesModel" (38 : Nat) "PinEnginesModel" "writtenBase" "[I" ∈ tb := tb_at 2098 (by decide +kernel) rfl
theorem q2099 : Cond.fieldLink "PinEnginesModel" (41 : Nat) "PinEnginesModel" "writtenSize" "[I" ∈ tb := tb_at 2099 (by decide +kernel) rfl
theorem q2100 : Cond.fieldLink "PinEnginesModel" (44 : Nat) "PinEnginesModel" "writtenValue" "[I" ∈ tb := tb_at 2100 (by decide +kernel) rfl
theorem q2101 : Cond.fieldLink "PinEnginesModel" (47 : Nat) "PinEnginesModel" "sideValue" "[I" ∈ tb := tb_at 2101 (by decide +kernel) rfl
theorem q2102 : Cond.fieldLink "PinEnginesModel" (287 : Nat) "PinEnginesModel" "raised" "I" ∈ tb := tb_at 2102 (by decide +kernel) rfl
theorem q2103 : Cond.fieldLink "PinEnginesModel" (290 : Nat) "PinEnginesModel" "cleared" "I" ∈ tb := tb_at 2103 (by decide +kernel) rfl
theorem q2104 : Cond.fieldLink "PinEnginesModel" (296 : Nat) "PinEnginesModel" "portNow" "I" ∈ tb := tb_at 2104 (by decide +kernel) rfl
theorem q2105 : Cond.fieldLink "PinEnginesModel" (332 : Nat) "PinEnginesModel" "jumpsTo" "I" ∈ tb := tb_at 2105 (by decide +kernel) rfl
theorem q2106 : Cond.fieldLink "PinEnginesModel" (50 : Nat) "PinEnginesModel" "buffer" "[I" ∈ tb := tb_at 2106 (by decide +kernel) rfl
theorem q2107 : Cond.fieldLink "PinEnginesModel" (466 : Nat) "PinEnginesModel" "bufferLength" "I" ∈ tb := tb_at 2107 (by decide +kernel) rfl
theorem q2108 : Cond.fieldLink "PinEnginesModel" (469 : Nat) "PinEnginesModel" "limit" "I" ∈ tb := tb_at 2108 (by decide +kernel) rfl
theorem q2109 : Cond.fieldLink "PinEnginesModel" (475 : Nat) "PinEnginesModel" "next" "I" ∈ tb := tb_at 2109 (by decide +kernel) rfl
theorem q2110 : Cond.fieldLink "PinEnginesModel" (478 : Nat) "PinEnginesModel" "beginsAt" "I" ∈ tb := tb_at 2110 (by decide +kernel) rfl
theorem q2111 : Cond.fieldLink "PinEnginesModel" (481 : Nat) "PinEnginesModel" "token" "I" ∈ tb := tb_at 2111 (by decide +kernel) rfl
theorem q2112 : Cond.fieldLink "PinEnginesModel" (490 : Nat) "PinEnginesModel" "error" "I" ∈ tb := tb_at 2112 (by decide +kernel) rfl
theorem q2113 : Cond.fieldLink "PinEnginesModel" (499 : Nat) "PinEnginesModel" "errorAt" "I" ∈ tb := tb_at 2113 (by decide +kernel) rfl
theorem q2114 : Cond.fieldLink "PinEnginesModel" (53 : Nat) "PinEnginesModel" "errorPosition" "I" ∈ tb := tb_at 2114 (by decide +kernel) rfl
theorem q2115 : Cond.fieldLink "PinEnginesModel" (493 : Nat) "PinEnginesModel" "nested" "I" ∈ tb := tb_at 2115 (by decide +kernel) rfl
theorem q2116 : Cond.fieldLink "PinEnginesModel" (85 : Nat) "PinEnginesModel" "operations" "[Ljava/lang/String;" ∈ tb := tb_at 2116 (by decide +kernel) rfl
theorem q2117 : Cond.fieldLink "PinEnginesModel" (105 : Nat) "PinEnginesModel" "conditions" "[Ljava/lang/String;" ∈ tb := tb_at 2117 (by decide +kernel) rfl
theorem q2118 : Cond.fieldLink "PinEnginesModel" (126 : Nat) "PinEnginesModel" "places" "[Ljava/lang/String;" ∈ tb := tb_at 2118 (by decide +kernel) rfl
theorem q2119 : Cond.fieldLink "PinEnginesModel" (195 : Nat) "PinEnginesModel" "others" "[Ljava/lang/String;" ∈ tb := tb_at 2119 (by decide +kernel) rfl
theorem q2120 : Cond.fieldLink "PinEnginesModel" (198 : Nat) "PinEnginesModel" "labelBegin" "[I" ∈ tb := tb_at 2120 (by decide +kernel) rfl
theorem q2121 : Cond.fieldLink "PinEnginesModel" (201 : Nat) "PinEnginesModel" "labelLength" "[I" ∈ tb := tb_at 2121 (by decide +kernel) rfl
theorem q2122 : Cond.fieldLink "PinEnginesModel" (204 : Nat) "PinEnginesModel" "nameBegin" "[I" ∈ tb := tb_at 2122 (by decide +kernel) rfl
theorem q2123 : Cond.fieldLink "PinEnginesModel" (207 : Nat) "PinEnginesModel" "nameLength" "[I" ∈ tb := tb_at 2123 (by decide +kernel) rfl
theorem q2124 : Cond.fieldLink "PinEnginesModel" (210 : Nat) "PinEnginesModel" "nameTarget" "[I" ∈ tb := tb_at 2124 (by decide +kernel) rfl
theorem q2125 : Cond.fieldLink "PinEnginesModel" (540 : Nat) "PinEnginesModel" "nameCount" "I" ∈ tb := tb_at 2125 (by decide +kernel) rfl
theorem q2126 : Cond.fieldLink "PinEnginesModel" (213 : Nat) "PinEnginesModel" "formatted" "[I" ∈ tb := tb_at 2126 (by decide +kernel) rfl
theorem q2127 : Cond.fieldLink "PinEnginesModel" (630 : Nat) "PinEnginesModel" "formattedLength" "I" ∈ tb := tb_at 2127 (by decide +kernel) rfl
theorem q2128 : Cond.fieldLink "PinEnginesModel" (216 : Nat) "PinEnginesModel" "names" "[Ljava/lang/String;" ∈ tb := tb_at 2128 (by decide +kernel) rfl
theorem q2129 : Cond.fieldLink "PinEnginesModel" (219 : Nat) "PinEnginesModel" "fields" "[I" ∈ tb := tb_at 2129 (by decide +kernel) rfl
theorem q2130 : Cond.fieldLink "PinEnginesModel" (222 : Nat) "PinEnginesModel" "codes" "[I" ∈ tb := tb_at 2130 (by decide +kernel) rfl
theorem q2131 : Cond.fieldLink "PinEnginesModel" (225 : Nat) "PinEnginesModel" "stack" "[I" ∈ tb := tb_at 2131 (by decide +kernel) rfl
theorem q2132 : Cond.fieldLink "PinEnginesModel" (651 : Nat) "PinEnginesModel" "codeCount" "I" ∈ tb := tb_at 2132 (by decide +kernel) rfl
theorem q2133 : Cond.laysFinal "PinEnginesModel" "PinEnginesModel" "now" "[I" ∈ tb := tb_at 2133 (by decide +kernel) rfl
theorem q2135 : Cond.laysFinal "PinEnginesModel" "PinEnginesModel" "draft" "[I" ∈ tb := tb_at 2135 (by decide +kernel) rfl
theorem q2137 : Cond.laysFinal "PinEnginesModel" "PinEnginesModel" "kept" "[I" ∈ tb := tb_at 2137 (by decide +kernel) rfl
theorem q2139 : Cond.laysFinal "PinEnginesModel" "PinEnginesModel" "snapshot" "[I" ∈ tb := tb_at 2139 (by decide +kernel) rfl
theorem q2141 : Cond.laysFinal "PinEnginesModel" "PinEnginesModel" "history" "[I" ∈ tb := tb_at 2141 (by decide +kernel) rfl
theorem q2143 : Cond.lays "PinEnginesModel" "PinEnginesModel" "undoCount" "I" ∈ tb := tb_at 2143 (by decide +kernel) rfl
theorem q2145 : Cond.lays "PinEnginesModel" "PinEnginesModel" "thrown" "I" ∈ tb := tb_at 2145 (by decide +kernel) rfl
theorem q2147 : Cond.lays "PinEnginesModel" "PinEnginesModel" "hasSnapshot" "Z" ∈ tb := tb_at 2147 (by decide +kernel) rfl
theorem q2149 : Cond.laysFinal "PinEnginesModel" "PinEnginesModel" "levels" "[I" ∈ tb := tb_at 2149 (by decide +kernel) rfl
theorem q2151 : Cond.laysFinal "PinEnginesModel" "PinEnginesModel" "flags" "[I" ∈ tb := tb_at 2151 (by decide +kernel) rfl
theorem q2153 : Cond.laysFinal "PinEnginesModel" "PinEnginesModel" "hasTick" "[Z" ∈ tb := tb_at 2153 (by decide +kernel) rfl
theorem q2155 : Cond.laysFinal "PinEnginesModel" "PinEnginesModel" "written" "[I" ∈ tb := tb_at 2155 (by decide +kernel) rfl
theorem q2157 : Cond.laysFinal "PinEnginesModel" "PinEnginesModel" "writtenBase" "[I" ∈ tb := tb_at 2157 (by decide +kernel) rfl
theorem q2159 : Cond.laysFinal "PinEnginesModel" "PinEnginesModel" "writtenSize" "[I" ∈ tb := tb_at 2159 (by decide +kernel) rfl
theorem q2161 : Cond.laysFinal "PinEnginesModel" "PinEnginesModel" "writtenValue" "[I" ∈ tb := tb_at 2161 (by decide +kernel) rfl
theorem q2163 : Cond.laysFinal "PinEnginesModel" "PinEnginesModel" "sideValue" "[I" ∈ tb := tb_at 2163 (by decide +kernel) rfl
theorem q2165 : Cond.lays "PinEnginesModel" "PinEnginesModel" "raised" "I" ∈ tb := tb_at 2165 (by decide +kernel) rfl
theorem q2167 : Cond.lays "PinEnginesModel" "PinEnginesModel" "cleared" "I" ∈ tb := tb_at 2167 (by decide +kernel) rfl
theorem q2169 : Cond.lays "PinEnginesModel" "PinEnginesModel" "portNow" "I" ∈ tb := tb_at 2169 (by decide +kernel) rfl
theorem q2171 : Cond.lays "PinEnginesModel" "PinEnginesModel" "jumpsTo" "I" ∈ tb := tb_at 2171 (by decide +kernel) rfl
theorem q2173 : Cond.laysFinal "PinEnginesModel" "PinEnginesModel" "buffer" "[I" ∈ tb := tb_at 2173 (by decide +kernel) rfl
theorem q2175 : Cond.lays "PinEnginesModel" "PinEnginesModel" "bufferLength" "I" ∈ tb := tb_at 2175 (by decide +kernel) rfl
theorem q2177 : Cond.lays "PinEnginesModel" "PinEnginesModel" "limit" "I" ∈ tb := tb_at 2177 (by decide +kernel) rfl
theorem q2179 : Cond.lays "PinEnginesModel" "PinEnginesModel" "next" "I" ∈ tb := tb_at 2179 (by decide +kernel) rfl
theorem q2181 : Cond.lays "PinEnginesModel" "PinEnginesModel" "beginsAt" "I" ∈ tb := tb_at 2181 (by decide +kernel) rfl
theorem q2183 : Cond.lays "PinEnginesModel" "PinEnginesModel" "token" "I" ∈ tb := tb_at 2183 (by decide +kernel) rfl
theorem q2185 : Cond.lays "PinEnginesModel" "PinEnginesModel" "error" "I" ∈ tb := tb_at 2185 (by decide +kernel) rfl
theorem q2187 : Cond.lays "PinEnginesModel" "PinEnginesModel" "errorAt" "I" ∈ tb := tb_at 2187 (by decide +kernel) rfl
theorem q2189 : Cond.lays "PinEnginesModel" "PinEnginesModel" "errorPosition" "I" ∈ tb := tb_at 2189 (by decide +kernel) rfl
theorem q2191 : Cond.lays "PinEnginesModel" "PinEnginesModel" "nested" "I" ∈ tb := tb_at 2191 (by decide +kernel) rfl
theorem q2193 : Cond.laysFinal "PinEnginesModel" "PinEnginesModel" "operations" "[Ljava/lang/String;" ∈ tb := tb_at 2193 (by decide +kernel) rfl
theorem q2195 : Cond.laysFinal "PinEnginesModel" "PinEnginesModel" "conditions" "[Ljava/lang/String;" ∈ tb := tb_at 2195 (by decide +kernel) rfl
theorem q2197 : Cond.laysFinal "PinEnginesModel" "PinEnginesModel" "places" "[Ljava/lang/String;" ∈ tb := tb_at 2197 (by decide +kernel) rfl
theorem q2199 : Cond.laysFinal "PinEnginesModel" "PinEnginesModel" "others" "[Ljava/lang/String;" ∈ tb := tb_at 2199 (by decide +kernel) rfl
theorem q2201 : Cond.laysFinal "PinEnginesModel" "PinEnginesModel" "labelBegin" "[I" ∈ tb := tb_at 2201 (by decide +kernel) rfl
theorem q2203 : Cond.laysFinal "PinEnginesModel" "PinEnginesModel" "labelLength" "[I" ∈ tb := tb_at 2203 (by decide +kernel) rfl
theorem q2205 : Cond.laysFinal "PinEnginesModel" "PinEnginesModel" "nameBegin" "[I" ∈ tb := tb_at 2205 (by decide +kernel) rfl
theorem q2207 : Cond.laysFinal "PinEnginesModel" "PinEnginesModel" "nameLength" "[I" ∈ tb := tb_at 2207 (by decide +kernel) rfl
theorem q2209 : Cond.laysFinal "PinEnginesModel" "PinEnginesModel" "nameTarget" "[I" ∈ tb := tb_at 2209 (by decide +kernel) rfl
theorem q2211 : Cond.lays "PinEnginesModel" "PinEnginesModel" "nameCount" "I" ∈ tb := tb_at 2211 (by decide +kernel) rfl
theorem q2213 : Cond.laysFinal "PinEnginesModel" "PinEnginesModel" "formatted" "[I" ∈ tb := tb_at 2213 (by decide +kernel) rfl
theorem q2215 : Cond.lays "PinEnginesModel" "PinEnginesModel" "formattedLength" "I" ∈ tb := tb_at 2215 (by decide +kernel) rfl
theorem q2217 : Cond.laysFinal "PinEnginesModel" "PinEnginesModel" "names" "[Ljava/lang/String;" ∈ tb := tb_at 2217 (by decide +kernel) rfl
theorem q2219 : Cond.laysFinal "PinEnginesModel" "PinEnginesModel" "fields" "[I" ∈ tb := tb_at 2219 (by decide +kernel) rfl
theorem q2221 : Cond.laysFinal "PinEnginesModel" "PinEnginesModel" "codes" "[I" ∈ tb := tb_at 2221 (by decide +kernel) rfl
theorem q2223 : Cond.laysFinal "PinEnginesModel" "PinEnginesModel" "stack" "[I" ∈ tb := tb_at 2223 (by decide +kernel) rfl
theorem q2225 : Cond.lays "PinEnginesModel" "PinEnginesModel" "codeCount" "I" ∈ tb := tb_at 2225 (by decide +kernel) rfl
theorem q2228 : Cond.arrayClass Jvm.ClassFile.FieldType.boolean ∈ tb := tb_at 2228 (by decide +kernel) rfl
theorem q2229 : Cond.methodLink "PinEnginesLaw" (138 : Nat) ({ cls := "PinEnginesModel", name := "thrown", desc := "()I" } : Jvm.MethodName) ∈ tb := tb_at 2229 (by decide +kernel) rfl
theorem q2230 : Cond.instanceMethod ({ cls := "PinEnginesModel", name := "thrown", desc := "()I" } : Jvm.MethodName) ∈ tb := tb_at 2230 (by decide +kernel) rfl
theorem q2231 : Cond.selects "PinEnginesModel" ({ cls := "PinEnginesModel", name := "thrown", desc := "()I" } : Jvm.MethodName) ({ cls := "PinEnginesModel", name := "thrown", desc := "()I" } : Jvm.MethodName) ∈ tb := tb_at 2231 (by decide +kernel) rfl
theorem q2232 : Cond.code ({ cls := "PinEnginesModel", name := "thrown", desc := "()I" } : Jvm.MethodName) prog_15_method_2_code (1 : Nat) (Option.some Jvm.ClassFile.FieldType.int) ∈ tb := tb_at 2232 (by decide +kernel) rfl
theorem q2233 : Cond.methodLink "PinEnginesLaw" (149 : Nat) ({ cls := "PinEnginesModel", name := "instructionCount", desc := "()I" } : Jvm.MethodName) ∈ tb := tb_at 2233 (by decide +kernel) rfl
theorem q2234 : Cond.instanceMethod ({ cls := "PinEnginesModel", name := "instructionCount", desc := "()I" } : Jvm.MethodName) ∈ tb := tb_at 2234 (by decide +kernel) rfl
theorem q2235 : Cond.selects "PinEnginesModel" ({ cls := "PinEnginesModel", name := "instructionCount", desc := "()I" } : Jvm.MethodName) ({ cls := "PinEnginesModel", name := "instructionCount", desc := "()I" } : Jvm.MethodName) ∈ tb := tb_at 2235 (by decide +kernel) rfl
theorem q2236 : Cond.code ({ cls := "PinEnginesModel", name := "instructionCount", desc := "()I" } : Jvm.MethodName) prog_15_method_17_code (1 : Nat) (Option.some Jvm.ClassFile.FieldType.int) ∈ tb := tb_at 2236 (by decide +kernel) rfl
theorem q2237 : Cond.methodLink "PinEnginesLaw" (153 : Nat) ({ cls := "PinEnginesModel", name := "engines", desc := "()I" } : Jvm.MethodName) ∈ tb := tb_at 2237 (by decide +kernel) rfl
theorem q2238 : Cond.instanceMethod ({ cls := "PinEnginesModel", name := "engines", desc := "()I" } : Jvm.MethodName) ∈ tb := tb_at 2238 (by decide +kernel) rfl
theorem q2239 : Cond.selects "PinEnginesModel" ({ cls := "PinEnginesModel", name := "engines", desc := "()I" } : Jvm.MethodName) ({ cls := "PinEnginesModel", name := "engines", desc := "()I" } : Jvm.MethodName) ∈ tb := tb_at 2239 (by decide +kernel) rfl
theorem q2240 : Cond.code ({ cls := "PinEnginesModel", name := "engines", desc := "()I" } : Jvm.MethodName) prog_15_method_18_code (3 : Nat) (Option.some Jvm.ClassFile.FieldType.int) ∈ tb := tb_at 2240 (by decide +kernel) rfl
theorem q2241 : Cond.methodLink "PinEnginesModel" (249 : Nat) ({ cls := "PinEnginesModel", name := "setting", desc := "(II)I" } : Jvm.MethodName) ∈ tb := tb_at 2241 (by decide +kernel) rfl
theorem q2243 : Cond.instanceMethod ({ cls := "PinEnginesModel", name := "setting", desc := "(II)I" } : Jvm.MethodName) ∈ tb := tb_at 2243 (by decide +kernel) rfl
theorem q2244 : Cond.code ({ cls := "PinEnginesModel", name := "setting", desc := "(II)I" } : Jvm.MethodName) prog_15_method_12_code (3 : Nat) (Option.some Jvm.ClassFile.FieldType.int) ∈ tb := tb_at 2244 (by decide +kernel) rfl
theorem q2245 : Cond.methodLink "PinEnginesLaw" (157 : Nat) ({ cls := "PinEnginesModel", name := "clock", desc := "()I" } : Jvm.MethodName) ∈ tb := tb_at 2245 (by decide +kernel) rfl
theorem q2246 : Cond.instanceMethod ({ cls := "PinEnginesModel", name := "clock", desc := "()I" } : Jvm.MethodName) ∈ tb := tb_at 2246 (by decide +kernel) rfl
theorem q2247 : Cond.selects "PinEnginesModel" ({ cls := "PinEnginesModel", name := "clock", desc := "()I" } : Jvm.MethodName) ({ cls := "PinEnginesModel", name := "clock", desc := "()I" } : Jvm.MethodName) ∈ tb := tb_at 2247 (by decide +kernel) rfl
theorem q2248 : Cond.code ({ cls := "PinEnginesModel", name := "clock", desc := "()I" } : Jvm.MethodName) prog_15_method_19_code (1 : Nat) (Option.some Jvm.ClassFile.FieldType.int) ∈ tb := tb_at 2248 (by decide +kernel) rfl
theorem q2249 : Cond.methodLink "PinEnginesLaw" (160 : Nat) ({ cls := "PinEnginesModel", name := "level", desc := "(I)I" } : Jvm.MethodName) ∈ tb := tb_at 2249 (by decide +kernel) rfl
theorem q2250 : Cond.instanceMethod ({ cls := "PinEnginesModel", name := "level", desc := "(I)I" } : Jvm.MethodName) ∈ tb := tb_at 2250 (by decide +kernel) rfl
theorem q2251 : Cond.selects "PinEnginesModel" ({ cls := "PinEnginesModel", name := "level", desc := "(I)I" } : Jvm.MethodName) ({ cls := "PinEnginesModel", name := "level", desc := "(I)I" } : Jvm.MethodName) ∈ tb := tb_at 2251 (by decide +kernel) rfl
theorem q2252 : Cond.code ({ cls := "PinEnginesModel", name := "level", desc := "(I)I" } : Jvm.MethodName) prog_15_method_21_code (2 : Nat) (Option.some Jvm.ClassFile.FieldType.int) ∈ tb := tb_at 2252 (by decide +kernel) rfl
theorem q2253 : Cond.methodLink "PinEnginesModel" (255 : Nat) ({ cls := "PinEnginesModel", name := "isPin", desc := "(I)Z" } : Jvm.MethodName) ∈ tb := tb_at 2253 (by decide +kernel) rfl
theorem q2254 : Cond.static ({ cls := "PinEnginesModel", name := "isPin", desc := "(I)Z" } : Jvm.MethodName) ∈ tb := tb_at 2254 (by decide +kernel) rfl
theorem q2255 : Cond.code ({ cls := "PinEnginesModel", name := "isPin", desc := "(I)Z" } : Jvm.MethodName) prog_15_method_16_code (1 : Nat) (Option.some Jvm.ClassFile.FieldType.boolean) ∈ tb := tb_at 2255 (by decide +kernel) rfl
theorem q2256 : Cond.methodLink "PinEnginesModel" (245 : Nat) ({ cls := "PinEnginesModel", name := "inRange", desc := "(III)Z" } : Jvm.MethodName) ∈ tb := tb_at 2256 (by decide +kernel) rfl
theorem q2257 : Cond.static ({ cls := "PinEnginesModel", name := "inRange", desc := "(III)Z" } : Jvm.MethodName) ∈ tb := tb_at 2257 (by decide +kernel) rfl
theorem q2258 : Cond.code ({ cls := "PinEnginesModel", name := "inRange", desc := "(III)Z" } : Jvm.MethodName) prog_15_method_4_code (3 : Nat) (Option.some Jvm.ClassFile.FieldType.boolean) ∈ tb := tb_at 2258 (by decide +kernel) rfl
theorem q2259 : Cond.methodLink "PinEnginesModel" (259 : Nat) ({ cls := "PinEnginesModel", name := "raise", desc := "(I)I" } : Jvm.MethodName) ∈ tb := tb_at 2259 (by decide +kernel) rfl
theorem q2261 : Cond.instanceMethod ({ cls := "PinEnginesModel", name := "raise", desc := "(I)I" } : Jvm.MethodName) ∈ tb := tb_at 2261 (by decide +kernel) rfl
theorem q2262 : Cond.code ({ cls := "PinEnginesModel", name := "raise", desc := "(I)I" } : Jvm.MethodName) prog_15_method_3_code (2 : Nat) (Option.some Jvm.ClassFile.FieldType.int) ∈ tb := tb_at 2262 (by decide +kernel) rfl
theorem q2263 : Cond.methodLink "PinEnginesModel" (262 : Nat) ({ cls := "PinEnginesModel", name := "levelOf", desc := "(I)I" } : Jvm.MethodName) ∈ tb := tb_at 2263 (by decide +kernel) rfl
theorem q2265 : Cond.instanceMethod ({ cls := "PinEnginesModel", name := "levelOf", desc := "(I)I" } : Jvm.MethodName) ∈ tb := tb_at 2265 (by decide +kernel) rfl
theorem q2266 : Cond.code ({ cls := "PinEnginesModel", name := "levelOf", desc := "(I)I" } : Jvm.MethodName) prog_15_method_20_code (2 : Nat) (Option.some Jvm.ClassFile.FieldType.int) ∈ tb := tb_at 2266 (by decide +kernel) rfl
theorem q2267 : Cond.methodLink "PinEnginesModel" (252 : Nat) ({ cls := "PinEnginesModel", name := "ofPin", desc := "(II)I" } : Jvm.MethodName) ∈ tb := tb_at 2267 (by decide +kernel) rfl
theorem q2269 : Cond.instanceMethod ({ cls := "PinEnginesModel", name := "ofPin", desc := "(II)I" } : Jvm.MethodName) ∈ tb := tb_at 2269 (by decide +kernel) rfl
theorem q2270 : Cond.code ({ cls := "PinEnginesModel", name := "ofPin", desc := "(II)I" } : Jvm.MethodName) prog_15_method_6_code (3 : Nat) (Option.some Jvm.ClassFile.FieldType.int) ∈ tb := tb_at 2270 (by decide +kernel) rfl
theorem q2271 : Cond.methodLink "PinEnginesLaw" (163 : Nat) ({ cls := "PinEnginesModel", name := "latch", desc := "(I)I" } : Jvm.MethodName) ∈ tb := tb_at 2271 (by decide +kernel) rfl
theorem q2272 : Cond.instanceMethod ({ cls := "PinEnginesModel", name := "latch", desc := "(I)I" } : Jvm.MethodName) ∈ tb := tb_at 2272 (by decide +kernel) rfl
theorem q2273 : Cond.selects "PinEnginesModel" ({ cls := "PinEnginesModel", name := "latch", desc := "(I)I" } : Jvm.MethodName) ({ cls := "PinEnginesModel", name := "latch", desc := "(I)I" } : Jvm.MethodName) ∈ tb := tb_at 2273 (by decide +kernel) rfl
theorem q2274 : Cond.code ({ cls := "PinEnginesModel", name := "latch", desc := "(I)I" } : Jvm.MethodName) prog_15_method_23_code (2 : Nat) (Option.some Jvm.ClassFile.FieldType.int) ∈ tb := tb_at 2274 (by decide +kernel) rfl
theorem q2275 : Cond.methodLink "PinEnginesModel" (265 : Nat) ({ cls := "PinEnginesModel", name := "tellPin", desc := "(II)I" } : Jvm.MethodName) ∈ tb := tb_at 2275 (by decide +kernel) rfl
theorem q2277 : Cond.instanceMethod ({ cls := "PinEnginesModel", name := "tellPin", desc := "(II)I" } : Jvm.MethodName) ∈ tb := tb_at 2277 (by decide +kernel) rfl
theorem q2278 : Cond.code ({ cls := "PinEnginesModel", name := "tellPin", desc := "(II)I" } : Jvm.MethodName) prog_15_method_22_code (3 : Nat) (Option.some Jvm.ClassFile.FieldType.int) ∈ tb := tb_at 2278 (by decide +kernel) rfl
theorem q2279 : Cond.methodLink "PinEnginesLaw" (166 : Nat) ({ cls := "PinEnginesModel", name := "isOutput", desc := "(I)Z" } : Jvm.MethodName) ∈ tb := tb_at 2279 (by decide +kernel) rfl
theorem q2280 : Cond.instanceMethod ({ cls := "PinEnginesModel", name := "isOutput", desc := "(I)Z" } : Jvm.MethodName) ∈ tb := tb_at 2280 (by decide +kernel) rfl
theorem q2281 : Cond.selects "PinEnginesModel" ({ cls := "PinEnginesModel", name := "isOutput", desc := "(I)Z" } : Jvm.MethodName) ({ cls := "PinEnginesModel", name := "isOutput", desc := "(I)Z" } : Jvm.MethodName) ∈ tb := tb_at 2281 (by decide +kernel) rfl
theorem q2282 : Cond.code ({ cls := "PinEnginesModel", name := "isOutput", desc := "(I)Z" } : Jvm.MethodName) prog_15_method_24_code (2 : Nat) (Option.some Jvm.ClassFile.FieldType.boolean) ∈ tb := tb_at 2282 (by decide +kernel) rfl
theorem q2283 : Cond.methodLink "PinEnginesLaw" (169 : Nat) ({ cls := "PinEnginesModel", name := "flag", desc := "(I)I" } : Jvm.MethodName) ∈ tb := tb_at 2283 (by decide +kernel) rfl
theorem q2284 : Cond.instanceMethod ({ cls := "PinEnginesModel", name := "flag", desc := "(I)I" } : Jvm.MethodName) ∈ tb := tb_at 2284 (by decide +kernel) rfl
theorem q2285 : Cond.selects "PinEnginesModel" ({ cls := "PinEnginesModel", name := "flag", desc := "(I)I" } : Jvm.MethodName) ({ cls := "PinEnginesModel", name := "flag", desc := "(I)I" } : Jvm.MethodName) ∈ tb := tb_at 2285 (by decide +kernel) rfl
theorem q2286 : Cond.code ({ cls := "PinEnginesModel", name := "flag", desc := "(I)I" } : Jvm.MethodName) prog_15_method_25_code (2 : Nat) (Option.some Jvm.ClassFile.FieldType.int) ∈ tb := tb_at 2286 (by decide +kernel) rfl
theorem q2287 : Cond.methodLink "PinEnginesLaw" (172 : Nat) ({ cls := "PinEnginesModel", name := "memory", desc := "(I)I" } : Jvm.MethodName) ∈ tb := tb_at 2287 (by decide +kernel) rfl
theorem q2288 : Cond.instanceMethod ({ cls := "PinEnginesModel", name := "memory", desc := "(I)I" } : Jvm.MethodName) ∈ tb := tb_at 2288 (by decide +kernel) rfl
theorem q2289 : Cond.selects "PinEnginesModel" ({ cls := "PinEnginesModel", name := "memory", desc := "(I)I" } : Jvm.MethodName) ({ cls := "PinEnginesModel", name := "memory", desc := "(I)I" } : Jvm.MethodName) ∈ tb := tb_at 2289 (by decide +kernel) rfl
theorem q2290 : Cond.code ({ cls := "PinEnginesModel", name := "memory", desc := "(I)I" } : Jvm.MethodName) prog_15_method_26_code (2 : Nat) (Option.some Jvm.ClassFile.FieldType.int) ∈ tb := tb_at 2290 (by decide +kernel) rfl
theorem q2291 : Cond.methodLink "PinEnginesLaw" (176 : Nat) ({ cls := "PinEnginesModel", name := "portOwner", desc := "()I" } : Jvm.MethodName) ∈ tb := tb_at 2291 (by decide +kernel) rfl
theorem q2292 : Cond.instanceMethod ({ cls := "PinEnginesModel", name := "portOwner", desc := "()I" } : Jvm.MethodName) ∈ tb := tb_at 2292 (by decide +kernel) rfl
theorem q2293 : Cond.selects "PinEnginesModel" ({ cls := "PinEnginesModel", name := "portOwner", desc := "()I" } : Jvm.MethodName) ({ cls := "PinEnginesModel", name := "portOwner", desc := "()I" } : Jvm.MethodName) ∈ tb := tb_at 2293 (by decide +kernel) rfl
theorem q2294 : Cond.code ({ cls := "PinEnginesModel", name := "portOwner", desc := "()I" } : Jvm.MethodName) prog_15_method_27_code (1 : Nat) (Option.some Jvm.ClassFile.FieldType.int) ∈ tb := tb_at 2294 (by decide +kernel) rfl
theorem q2295 : Cond.methodLink "PinEnginesLaw" (179 : Nat) ({ cls := "PinEnginesModel", name := "pc", desc := "(I)I" } : Jvm.MethodName) ∈ tb := tb_at 2295 (by decide +kernel) rfl
theorem q2296 : Cond.instanceMethod ({ cls := "PinEnginesModel", name := "pc", desc := "(I)I" } : Jvm.MethodName) ∈ tb := tb_at 2296 (by decide +kernel) rfl
theorem q2297 : Cond.selects "PinEnginesModel" ({ cls := "PinEnginesModel", name := "pc", desc := "(I)I" } : Jvm.MethodName) ({ cls := "PinEnginesModel", name := "pc", desc := "(I)I" } : Jvm.MethodName) ∈ tb := tb_at 2297 (by decide +kernel) rfl
theorem q2298 : Cond.code ({ cls := "PinEnginesModel", name := "pc", desc := "(I)I" } : Jvm.MethodName) prog_15_method_29_code (2 : Nat) (Option.some Jvm.ClassFile.FieldType.int) ∈ tb := tb_at 2298 (by decide +kernel) rfl
theorem q2299 : Cond.methodLink "PinEnginesModel" (271 : Nat) ({ cls := "PinEnginesModel", name := "tell", desc := "(II)I" } : Jvm.MethodName) ∈ tb := tb_at 2299 (by decide +kernel) rfl
theorem q2301 : Cond.instanceMethod ({ cls := "PinEnginesModel", name := "tell", desc := "(II)I" } : Jvm.MethodName) ∈ tb := tb_at 2301 (by decide +kernel) rfl
theorem q2302 : Cond.code ({ cls := "PinEnginesModel", name := "tell", desc := "(II)I" } : Jvm.MethodName) prog_15_method_28_code (3 : Nat) (Option.some Jvm.ClassFile.FieldType.int) ∈ tb := tb_at 2302 (by decide +kernel) rfl
theorem q2303 : Cond.methodLink "PinEnginesModel" (268 : Nat) ({ cls := "PinEnginesModel", name := "exists", desc := "(I)Z" } : Jvm.MethodName) ∈ tb := tb_at 2303 (by decide +kernel) rfl
theorem q2305 : Cond.instanceMethod ({ cls := "PinEnginesModel", name := "exists", desc := "(I)Z" } : Jvm.MethodName) ∈ tb := tb_at 2305 (by decide +kernel) rfl
theorem q2306 : Cond.code ({ cls := "PinEnginesModel", name := "exists", desc := "(I)Z" } : Jvm.MethodName) prog_15_method_15_code (2 : Nat) (Option.some Jvm.ClassFile.FieldType.boolean) ∈ tb := tb_at 2306 (by decide +kernel) rfl
theorem q2307 : Cond.methodLink "PinEnginesModel" (238 : Nat) ({ cls := "PinEnginesModel", name := "of", desc := "(II)I" } : Jvm.MethodName) ∈ tb := tb_at 2307 (by decide +kernel) rfl
theorem q2309 : Cond.instanceMethod ({ cls := "PinEnginesModel", name := "of", desc := "(II)I" } : Jvm.MethodName) ∈ tb := tb_at 2309 (by decide +kernel) rfl
theorem q2310 : Cond.code ({ cls := "PinEnginesModel", name := "of", desc := "(II)I" } : Jvm.MethodName) prog_15_method_8_code (3 : Nat) (Option.some Jvm.ClassFile.FieldType.int) ∈ tb := tb_at 2310 (by decide +kernel) rfl
theorem q2311 : Cond.methodLink "PinEnginesLaw" (183 : Nat) ({ cls := "PinEnginesModel", name := "register", desc := "(II)I" } : Jvm.MethodName) ∈ tb := tb_at 2311 (by decide +kernel) rfl
theorem q2312 : Cond.instanceMethod ({ cls := "PinEnginesModel", name := "register", desc := "(II)I" } : Jvm.MethodName) ∈ tb := tb_at 2312 (by decide +kernel) rfl
theorem q2313 : Cond.selects "PinEnginesModel" ({ cls := "PinEnginesModel", name := "register", desc := "(II)I" } : Jvm.MethodName) ({ cls := "PinEnginesModel", name := "register", desc := "(II)I" } : Jvm.MethodName) ∈ tb := tb_at 2313 (by decide +kernel) rfl
theorem q2314 : Cond.code ({ cls := "PinEnginesModel", name := "register", desc := "(II)I" } : Jvm.MethodName) prog_15_method_30_code (3 : Nat) (Option.some Jvm.ClassFile.FieldType.int) ∈ tb := tb_at 2314 (by decide +kernel) rfl
theorem q2315 : Cond.methodLink "PinEnginesLaw" (186 : Nat) ({ cls := "PinEnginesModel", name := "fill", desc := "(I)I" } : Jvm.MethodName) ∈ tb := tb_at 2315 (by decide +kernel) rfl
theorem q2316 : Cond.instanceMethod ({ cls := "PinEnginesModel", name := "fill", desc := "(I)I" } : Jvm.MethodName) ∈ tb := tb_at 2316 (by decide +kernel) rfl
theorem q2317 : Cond.selects "PinEnginesModel" ({ cls := "PinEnginesModel", name := "fill", desc := "(I)I" } : Jvm.MethodName) ({ cls := "PinEnginesModel", name := "fill", desc := "(I)I" } : Jvm.MethodName) ∈ tb := tb_at 2317 (by decide +kernel) rfl
theorem q2318 : Cond.code ({ cls := "PinEnginesModel", name := "fill", desc := "(I)I" } : Jvm.MethodName) prog_15_method_31_code (2 : Nat) (Option.some Jvm.ClassFile.FieldType.int) ∈ tb := tb_at 2318 (by decide +kernel) rfl
theorem q2319 : Cond.methodLink "PinEnginesLaw" (189 : Nat) ({ cls := "PinEnginesModel", name := "spent", desc := "(I)I" } : Jvm.MethodName) ∈ tb := tb_at 2319 (by decide +kernel) rfl
theorem q2320 : Cond.instanceMethod ({ cls := "PinEnginesModel", name := "spent", desc := "(I)I" } : Jvm.MethodName) ∈ tb := tb_at 2320 (by decide +kernel) rfl
theorem q2321 : Cond.selects "PinEnginesModel" ({ cls := "PinEnginesModel", name := "spent", desc := "(I)I" } : Jvm.MethodName) ({ cls := "PinEnginesModel", name := "spent", desc := "(I)I" } : Jvm.MethodName) ∈ tb := tb_at 2321 (by decide +kernel) rfl
theorem q2322 : Cond.code ({ cls := "PinEnginesModel", name := "spent", desc := "(I)I" } : Jvm.MethodName) prog_15_method_32_code (2 : Nat) (Option.some Jvm.ClassFile.FieldType.int) ∈ tb := tb_at 2322 (by decide +kernel) rfl
theorem q2323 : Cond.methodLink "PinEnginesLaw" (192 : Nat) ({ cls := "PinEnginesModel", name := "delayLeft", desc := "(I)I" } : Jvm.MethodName) ∈ tb := tb_at 2323 (by decide +kernel) rfl
theorem q2324 : Cond.instanceMethod ({ cls := "PinEnginesModel", name := "delayLeft", desc := "(I)I" } : Jvm.MethodName) ∈ tb := tb_at 2324 (by decide +kernel) rfl
theorem q2325 : Cond.selects "PinEnginesModel" ({ cls := "PinEnginesModel", name := "delayLeft", desc := "(I)I" } : Jvm.MethodName) ({ cls := "PinEnginesModel", name := "delayLeft", desc := "(I)I" } : Jvm.MethodName) ∈ tb := tb_at 2325 (by decide +kernel) rfl
theorem q2326 : Cond.code ({ cls := "PinEnginesModel", name := "delayLeft", desc := "(I)I" } : Jvm.MethodName) prog_15_method_33_code (2 : Nat) (Option.some Jvm.ClassFile.FieldType.int) ∈ tb := tb_at 2326 (by decide +kernel) rfl
theorem q2327 : Cond.methodLink "PinEnginesLaw" (195 : Nat) ({ cls := "PinEnginesModel", name := "stall", desc := "(I)I" } : Jvm.MethodName) ∈ tb := tb_at 2327 (by decide +kernel) rfl
theorem q2328 : Cond.instanceMethod ({ cls := "PinEnginesModel", name := "stall", desc := "(I)I" } : Jvm.MethodName) ∈ tb := tb_at 2328 (by decide +kernel) rfl
theorem q2329 : Cond.selects "PinEnginesModel" ({ cls := "PinEnginesModel", name := "stall", desc := "(I)I" } : Jvm.MethodName) ({ cls := "PinEnginesModel", name := "stall", desc := "(I)I" } : Jvm.MethodName) ∈ tb := tb_at 2329 (by decide +kernel) rfl
theorem q2330 : Cond.code ({ cls := "PinEnginesModel", name := "stall", desc := "(I)I" } : Jvm.MethodName) prog_15_method_34_code (2 : Nat) (Option.some Jvm.ClassFile.FieldType.int) ∈ tb := tb_at 2330 (by decide +kernel) rfl
theorem q2331 : Cond.methodLink "PinEnginesLaw" (198 : Nat) ({ cls := "PinEnginesModel", name := "isEnabled", desc := "(I)Z" } : Jvm.MethodName) ∈ tb := tb_at 2331 (by decide +kernel) rfl
theorem q2332 : Cond.instanceMethod ({ cls := "PinEnginesModel", name := "isEnabled", desc := "(I)Z" } : Jvm.MethodName) ∈ tb := tb_at 2332 (by decide +kernel) rfl
theorem q2333 : Cond.selects "PinEnginesModel" ({ cls := "PinEnginesModel", name := "isEnabled", desc := "(I)Z" } : Jvm.MethodName) ({ cls := "PinEnginesModel", name := "isEnabled", desc := "(I)Z" } : Jvm.MethodName) ∈ tb := tb_at 2333 (by decide +kernel) rfl
theorem q2334 : Cond.code ({ cls := "PinEnginesModel", name := "isEnabled", desc := "(I)Z" } : Jvm.MethodName) prog_15_method_35_code (2 : Nat) (Option.some Jvm.ClassFile.FieldType.boolean) ∈ tb := tb_at 2334 (by decide +kernel) rfl
theorem q2335 : Cond.methodLink "PinEnginesLaw" (202 : Nat) ({ cls := "PinEnginesModel", name := "queueSize", desc := "(IZ)I" } : Jvm.MethodName) ∈ tb := tb_at 2335 (by decide +kernel) rfl
theorem q2336 : Cond.instanceMethod ({ cls := "PinEnginesModel", name := "queueSize", desc := "(IZ)I" } : Jvm.MethodName) ∈ tb := tb_at 2336 (by decide +kernel) rfl
theorem q2337 : Cond.selects "PinEnginesModel" ({ cls := "PinEnginesModel", name := "queueSize", desc := "(IZ)I" } : Jvm.MethodName) ({ cls := "PinEnginesModel", name := "queueSize", desc := "(IZ)I" } : Jvm.MethodName) ∈ tb := tb_at 2337 (by decide +kernel) rfl
theorem q2338 : Cond.code ({ cls := "PinEnginesModel", name := "queueSize", desc := "(IZ)I" } : Jvm.MethodName) prog_15_method_36_code (3 : Nat) (Option.some Jvm.ClassFile.FieldType.int) ∈ tb := tb_at 2338 (by decide +kernel) rfl
theorem q2339 : Cond.methodLink "PinEnginesLaw" (206 : Nat) ({ cls := "PinEnginesModel", name := "queued", desc := "(IZI)J" } : Jvm.MethodName) ∈ tb := tb_at 2339 (by decide +kernel) rfl
theorem q2340 : Cond.instanceMethod ({ cls := "PinEnginesModel", name := "queued", desc := "(IZI)J" } : Jvm.MethodName) ∈ tb := tb_at 2340 (by decide +kernel) rfl
theorem q2341 : Cond.selects "PinEnginesModel" ({ cls := "PinEnginesModel", name := "queued", desc := "(IZI)J" } : Jvm.MethodName) ({ cls := "PinEnginesModel", name := "queued", desc := "(IZI)J" } : Jvm.MethodName) ∈ tb := tb_at 2341 (by decide +kernel) rfl
theorem q2342 : Cond.code ({ cls := "PinEnginesModel", name := "queued", desc := "(IZI)J" } : Jvm.MethodName) prog_15_method_38_code (5 : Nat) (Option.some Jvm.ClassFile.FieldType.long) ∈ tb := tb_at 2342 (by decide +kernel) rfl
theorem q2343 : Cond.methodLink "PinEnginesModel" (276 : Nat) ({ cls := "PinEnginesModel", name := "unsigned", desc := "(I)J" } : Jvm.MethodName) ∈ tb := tb_at 2343 (by decide +kernel) rfl
theorem q2344 : Cond.static ({ cls := "PinEnginesModel", name := "unsigned", desc := "(I)J" } : Jvm.MethodName) ∈ tb := tb_at 2344 (by decide +kernel) rfl
theorem q2345 : Cond.code ({ cls := "PinEnginesModel", name := "unsigned", desc := "(I)J" } : Jvm.MethodName) prog_15_method_37_code (1 : Nat) (Option.some Jvm.ClassFile.FieldType.long) ∈ tb := tb_at 2345 (by decide +kernel) rfl
theorem q2346 : Cond.constantLong "PinEnginesModel" (274 : Nat) (4294967295 : Int64) ∈ tb := tb_at 2346 (by decide +kernel) rfl
theorem q2347 : Cond.constantLong "PinEnginesModel" (280 : Nat) (-1 : Int64) ∈ tb := tb_at 2347 (by decide +kernel) rfl
theorem q2348 : Cond.methodLink "PinEnginesLaw" (209 : Nat) ({ cls := "PinEnginesModel", name := "count", desc := "(II)I" } : Jvm.MethodName) ∈ tb := tb_at 2348 (by decide +kernel) rfl
theorem q2349 : Cond.instanceMethod ({ cls := "PinEnginesModel", name := "count", desc := "(II)I" } : Jvm.MethodName) ∈ tb := tb_at 2349 (by decide +kernel) rfl
theorem q2350 : Cond.selects "PinEnginesModel" ({ cls := "PinEnginesModel", name := "count", desc := "(II)I" } : Jvm.MethodName) ({ cls := "PinEnginesModel", name := "count", desc := "(II)I" } : Jvm.MethodName) ∈ tb := tb_at 2350 (by decide +kernel) rfl
theorem q2351 : Cond.code ({ cls := "PinEnginesModel", name := "count", desc := "(II)I" } : Jvm.MethodName) prog_15_method_75_code (3 : Nat) (Option.some Jvm.ClassFile.FieldType.int) ∈ tb := tb_at 2351 (by decide +kernel) rfl
theorem q2352 : Cond.methodLink "PinEnginesLaw" (212 : Nat) ({ cls := "PinEnginesModel", name := "levelAt", desc := "(II)I" } : Jvm.MethodName) ∈ tb := tb_at 2352 (by decide +kernel) rfl
theorem q2353 : Cond.instanceMethod ({ cls := "PinEnginesModel", name := "levelAt", desc := "(II)I" } : Jvm.MethodName) ∈ tb := tb_at 2353 (by decide +kernel) rfl
theorem q2354 : Cond.selects "PinEnginesModel" ({ cls := "PinEnginesModel", name := "levelAt", desc := "(II)I" } : Jvm.MethodName) ({ cls := "PinEnginesModel", name := "levelAt", desc := "(II)I" } : Jvm.MethodName) ∈ tb := tb_at 2354 (by decide +kernel) rfl
theorem q2355 : Cond.code ({ cls := "PinEnginesModel", name := "levelAt", desc := "(II)I" } : Jvm.MethodName) prog_15_method_76_code (4 : Nat) (Option.some Jvm.ClassFile.FieldType.int) ∈ tb := tb_at 2355 (by decide +kernel) rfl
theorem q2356 : Cond.methodLink "PinEnginesLaw" (215 : Nat) ({ cls := "PinEnginesModel", name := "edges", desc := "(I)I" } : Jvm.MethodName) ∈ tb := tb_at 2356 (by decide +kernel) rfl
theorem q2357 : Cond.instanceMethod ({ cls := "PinEnginesModel", name := "edges", desc := "(I)I" } : Jvm.MethodName) ∈ tb := tb_at 2357 (by decide +kernel) rfl
theorem q2358 : Cond.selects "PinEnginesModel" ({ cls := "PinEnginesModel", name := "edges", desc := "(I)I" } : Jvm.MethodName) ({ cls := "PinEnginesModel", name := "edges", desc := "(I)I" } : Jvm.MethodName) ∈ tb := tb_at 2358 (by decide +kernel) rfl
theorem q2359 : Cond.code ({ cls := "PinEnginesModel", name := "edges", desc := "(I)I" } : Jvm.MethodName) prog_15_method_77_code (2 : Nat) (Option.some Jvm.ClassFile.FieldType.int) ∈ tb := tb_at 2359 (by decide +kernel) rfl
theorem q2360 : Cond.methodLink "PinEnginesLaw" (218 : Nat) ({ cls := "PinEnginesModel", name := "highTime", desc := "(I)I" } : Jvm.MethodName) ∈ tb := tb_at 2360 (by decide +kernel) rfl
theorem q2361 : Cond.instanceMethod ({ cls := "PinEnginesModel", name := "highTime", desc := "(I)I" } : Jvm.MethodName) ∈ tb := tb_at 2361 (by decide +kernel) rfl
theorem q2362 : Cond.selects "PinEnginesModel" ({ cls := "PinEnginesModel", name := "highTime", desc := "(I)I" } : Jvm.MethodName) ({ cls := "PinEnginesModel", name := "highTime", desc := "(I)I" } : Jvm.MethodName) ∈ tb := tb_at 2362 (by decide +kernel) rfl
theorem q2363 : Cond.code ({ cls := "PinEnginesModel", name := "highTime", desc := "(I)I" } : Jvm.MethodName) prog_15_method_78_code (2 : Nat) (Option.some Jvm.ClassFile.FieldType.int) ∈ tb := tb_at 2363 (by decide +kernel) rfl
theorem q2364 : Cond.methodLink "PinEnginesLaw" (221 : Nat) ({ cls := "PinEnginesModel", name := "put", desc := "(II)I" } : Jvm.MethodName) ∈ tb := tb_at 2364 (by decide +kernel) rfl
theorem q2365 : Cond.instanceMethod ({ cls := "PinEnginesModel", name := "put", desc := "(II)I" } : Jvm.MethodName) ∈ tb := tb_at 2365 (by decide +kernel) rfl
theorem q2366 : Cond.selects "PinEnginesModel" ({ cls := "PinEnginesModel", name := "put", desc := "(II)I" } : Jvm.MethodName) ({ cls := "PinEnginesModel", name := "put", desc := "(II)I" } : Jvm.MethodName) ∈ tb := tb_at 2366 (by decide +kernel) rfl
theorem q2367 : Cond.code ({ cls := "PinEnginesModel", name := "put", desc := "(II)I" } : Jvm.MethodName) prog_15_method_79_code (3 : Nat) (Option.some Jvm.ClassFile.FieldType.int) ∈ tb := tb_at 2367 (by decide +kernel) rfl
theorem q2368 : Cond.methodLink "PinEnginesModel" (392 : Nat) ({ cls := "PinEnginesModel", name := "isFull", desc := "(IZ)Z" } : Jvm.MethodName) ∈ tb := tb_at 2368 (by decide +kernel) rfl
theorem q2370 : Cond.instanceMethod ({ cls := "PinEnginesModel", name := "isFull", desc := "(IZ)Z" } : Jvm.MethodName) ∈ tb := tb_at 2370 (by decide +kernel) rfl
theorem q2371 : Cond.code ({ cls := "PinEnginesModel", name := "isFull", desc := "(IZ)Z" } : Jvm.MethodName) prog_15_method_39_code (3 : Nat) (Option.some Jvm.ClassFile.FieldType.boolean) ∈ tb := tb_at 2371 (by decide +kernel) rfl
theorem q2372 : Cond.methodLink "PinEnginesModel" (422 : Nat) ({ cls := "PinEnginesModel", name := "record", desc := "()V" } : Jvm.MethodName) ∈ tb := tb_at 2372 (by decide +kernel) rfl
theorem q2374 : Cond.instanceMethod ({ cls := "PinEnginesModel", name := "record", desc := "()V" } : Jvm.MethodName) ∈ tb := tb_at 2374 (by decide +kernel) rfl
theorem q2375 : Cond.code ({ cls := "PinEnginesModel", name := "record", desc := "()V" } : Jvm.MethodName) prog_15_method_96_code (2 : Nat) (Option.none : Option Jvm.ClassFile.FieldType) ∈ tb := tb_at 2375 (by decide +kernel) rfl
theorem q2376 : Cond.methodLink "PinEnginesModel" (441 : Nat) ({ cls := "PinEnginesModel", name := "copy", desc := "([II[II)V" } : Jvm.MethodName) ∈ tb := tb_at 2376 (by decide +kernel) rfl
theorem q2377 : Cond.static ({ cls := "PinEnginesModel", name := "copy", desc := "([II[II)V" } : Jvm.MethodName) ∈ tb := tb_at 2377 (by decide +kernel) rfl
theorem q2378 : Cond.code ({ cls := "PinEnginesModel", name := "copy", desc := "([II[II)V" } : Jvm.MethodName) prog_15_method_95_code (5 : Nat) (Option.none : Option Jvm.ClassFile.FieldType) ∈ tb := tb_at 2378 (by decide +kernel) rfl
theorem q2379 : Cond.methodLink "PinEnginesModel" (399 : Nat) ({ cls := "PinEnginesModel", name := "append", desc := "(IZI)V" } : Jvm.MethodName) ∈ tb := tb_at 2379 (by decide +kernel) rfl
theorem q2381 : Cond.instanceMethod ({ cls := "PinEnginesModel", name := "append", desc := "(IZI)V" } : Jvm.MethodName) ∈ tb := tb_at 2381 (by decide +kernel) rfl
theorem q2382 : Cond.code ({ cls := "PinEnginesModel", name := "append", desc := "(IZI)V" } : Jvm.MethodName) prog_15_method_40_code (5 : Nat) (Option.none : Option Jvm.ClassFile.FieldType) ∈ tb := tb_at 2382 (by decide +kernel) rfl
theorem q2383 : Cond.methodLink "PinEnginesModel" (282 : Nat) ({ cls := "PinEnginesModel", name := "set", desc := "(III)V" } : Jvm.MethodName) ∈ tb := tb_at 2383 (by decide +kernel) rfl
theorem q2385 : Cond.instanceMethod ({ cls := "PinEnginesModel", name := "set", desc := "(III)V" } : Jvm.MethodName) ∈ tb := tb_at 2385 (by decide +kernel) rfl
theorem q2386 : Cond.code ({ cls := "PinEnginesModel", name := "set", desc := "(III)V" } : Jvm.MethodName) prog_15_method_9_code (4 : Nat) (Option.none : Option Jvm.ClassFile.FieldType) ∈ tb := tb_at 2386 (by decide +kernel) rfl
theorem q2387 : Cond.methodLink "PinEnginesModel" (234 : Nat) ({ cls := "PinEnginesModel", name := "add", desc := "(III)V" } : Jvm.MethodName) ∈ tb := tb_at 2387 (by decide +kernel) rfl
theorem q2389 : Cond.instanceMethod ({ cls := "PinEnginesModel", name := "add", desc := "(III)V" } : Jvm.MethodName) ∈ tb := tb_at 2389 (by decide +kernel) rfl
theorem q2390 : Cond.code ({ cls := "PinEnginesModel", name := "add", desc := "(III)V" } : Jvm.MethodName) prog_15_method_10_code (4 : Nat) (Option.none : Option Jvm.ClassFile.FieldType) ∈ tb := tb_at 2390 (by decide +kernel) rfl
theorem q2391 : Cond.methodLink "PinEnginesLaw" (224 : Nat) ({ cls := "PinEnginesModel", name := "take", desc := "(I)J" } : Jvm.MethodName) ∈ tb := tb_at 2391 (by decide +kernel) rfl
theorem q2392 : Cond.instanceMethod ({ cls := "PinEnginesModel", name := "take", desc := "(I)J" } : Jvm.MethodName) ∈ tb := tb_at 2392 (by decide +kernel) rfl
theorem q2393 : Cond.selects "PinEnginesModel" ({ cls := "PinEnginesModel", name := "take", desc := "(I)J" } : Jvm.MethodName) ({ cls := "PinEnginesModel", name := "take", desc := "(I)J" } : Jvm.MethodName) ∈ tb := tb_at 2393 (by decide +kernel) rfl
theorem q2394 : Cond.code ({ cls := "PinEnginesModel", name := "take", desc := "(I)J" } : Jvm.MethodName) prog_15_method_80_code (2 : Nat) (Option.some Jvm.ClassFile.FieldType.long) ∈ tb := tb_at 2394 (by decide +kernel) rfl
theorem q2395 : Cond.constantLong "PinEnginesModel" (425 : Nat) (-2 : Int64) ∈ tb := tb_at 2395 (by decide +kernel) rfl
theorem q2396 : Cond.methodLink "PinEnginesModel" (406 : Nat) ({ cls := "PinEnginesModel", name := "removeFirst", desc := "(IZ)I" } : Jvm.MethodName) ∈ tb := tb_at 2396 (by decide +kernel) rfl
theorem q2398 : Cond.instanceMethod ({ cls := "PinEnginesModel", name := "removeFirst", desc := "(IZ)I" } : Jvm.MethodName) ∈ tb := tb_at 2398 (by decide +kernel) rfl
theorem q2399 : Cond.code ({ cls := "PinEnginesModel", name := "removeFirst", desc := "(IZ)I" } : Jvm.MethodName) prog_15_method_41_code (7 : Nat) (Option.some Jvm.ClassFile.FieldType.int) ∈ tb := tb_at 2399 (by decide +kernel) rfl
theorem q2400 : Cond.methodLink "PinEnginesLaw" (227 : Nat) ({ cls := "PinEnginesModel", name := "enable", desc := "(IZ)Z" } : Jvm.MethodName) ∈ tb := tb_at 2400 (by decide +kernel) rfl
theorem q2401 : Cond.instanceMethod ({ cls := "PinEnginesModel", name := "enable", desc := "(IZ)Z" } : Jvm.MethodName) ∈ tb := tb_at 2401 (by decide +kernel) rfl
theorem q2402 : Cond.selects "PinEnginesModel" ({ cls := "PinEnginesModel", name := "enable", desc := "(IZ)Z" } : Jvm.MethodName) ({ cls := "PinEnginesModel", name := "enable", desc := "(IZ)Z" } : Jvm.MethodName) ∈ tb := tb_at 2402 (by decide +kernel) rfl
theorem q2403 : Cond.code ({ cls := "PinEnginesModel", name := "enable", desc := "(IZ)Z" } : Jvm.MethodName) prog_15_method_81_code (4 : Nat) (Option.some Jvm.ClassFile.FieldType.boolean) ∈ tb := tb_at 2403 (by decide +kernel) rfl
theorem q2404 : Cond.methodLink "PinEnginesLaw" (230 : Nat) ({ cls := "PinEnginesModel", name := "restart", desc := "(I)I" } : Jvm.MethodName) ∈ tb := tb_at 2404 (by decide +kernel) rfl
theorem q2405 : Cond.instanceMethod ({ cls := "PinEnginesModel", name := "restart", desc := "(I)I" } : Jvm.MethodName) ∈ tb := tb_at 2405 (by decide +kernel) rfl
theorem q2406 : Cond.selects "PinEnginesModel" ({ cls := "PinEnginesModel", name := "restart", desc := "(I)I" } : Jvm.MethodName) ({ cls := "PinEnginesModel", name := "restart", desc := "(I)I" } : Jvm.MethodName) ∈ tb := tb_at 2406 (by decide +kernel) rfl
theorem q2407 : Cond.code ({ cls := "PinEnginesModel", name := "restart", desc := "(I)I" } : Jvm.MethodName) prog_15_method_83_code (3 : Nat) (Option.some Jvm.ClassFile.FieldType.int) ∈ tb := tb_at 2407 (by decide +kernel) rfl
theorem q2408 : Cond.methodLink "PinEnginesModel" (427 : Nat) ({ cls := "PinEnginesModel", name := "begin", desc := "(I)V" } : Jvm.MethodName) ∈ tb := tb_at 2408 (by decide +kernel) rfl
theorem q2410 : Cond.instanceMethod ({ cls := "PinEnginesModel", name := "begin", desc := "(I)V" } : Jvm.MethodName) ∈ tb := tb_at 2410 (by decide +kernel) rfl
theorem q2411 : Cond.code ({ cls := "PinEnginesModel", name := "begin", desc := "(I)V" } : Jvm.MethodName) prog_15_method_82_code (3 : Nat) (Option.none : Option Jvm.ClassFile.FieldType) ∈ tb := tb_at 2411 (by decide +kernel) rfl
theorem q2412 : Cond.methodLink "PinEnginesLaw" (233 : Nat) ({ cls := "PinEnginesModel", name := "drive", desc := "(II)I" } : Jvm.MethodName) ∈ tb := tb_at 2412 (by decide +kernel) rfl
theorem q2413 : Cond.instanceMethod ({ cls := "PinEnginesModel", name := "drive", desc := "(II)I" } : Jvm.MethodName) ∈ tb := tb_at 2413 (by decide +kernel) rfl
theorem q2414 : Cond.selects "PinEnginesModel" ({ cls := "PinEnginesModel", name := "drive", desc := "(II)I" } : Jvm.MethodName) ({ cls := "PinEnginesModel", name := "drive", desc := "(II)I" } : Jvm.MethodName) ∈ tb := tb_at 2414 (by decide +kernel) rfl
theorem q2415 : Cond.code ({ cls := "PinEnginesModel", name := "drive", desc := "(II)I" } : Jvm.MethodName) prog_15_method_84_code (3 : Nat) (Option.some Jvm.ClassFile.FieldType.int) ∈ tb := tb_at 2415 (by decide +kernel) rfl
theorem q2416 : Cond.methodLink "PinEnginesModel" (284 : Nat) ({ cls := "PinEnginesModel", name := "putPin", desc := "(III)V" } : Jvm.MethodName) ∈ tb := tb_at 2416 (by decide +kernel) rfl
theorem q2418 : Cond.instanceMethod ({ cls := "PinEnginesModel", name := "putPin", desc := "(III)V" } : Jvm.MethodName) ∈ tb := tb_at 2418 (by decide +kernel) rfl
theorem q2419 : Cond.code ({ cls := "PinEnginesModel", name := "putPin", desc := "(III)V" } : Jvm.MethodName) prog_15_method_7_code (4 : Nat) (Option.none : Option Jvm.ClassFile.FieldType) ∈ tb := tb_at 2419 (by decide +kernel) rfl
theorem q2420 : Cond.methodLink "PinEnginesLaw" (237 : Nat) ({ cls := "PinEnginesModel", name := "schedule", desc := "(III)I" } : Jvm.MethodName) ∈ tb := tb_at 2420 (by decide +kernel) rfl
theorem q2421 : Cond.instanceMethod ({ cls := "PinEnginesModel", name := "schedule", desc := "(III)I" } : Jvm.MethodName) ∈ tb := tb_at 2421 (by decide +kernel) rfl
theorem q2422 : Cond.selects "PinEnginesModel" ({ cls := "PinEnginesModel", name := "schedule", desc := "(III)I" } : Jvm.MethodName) ({ cls := "PinEnginesModel", name := "schedule", desc := "(III)I" } : Jvm.MethodName) ∈ tb := tb_at 2422 (by decide +kernel) rfl
theorem q2423 : Cond.code ({ cls := "PinEnginesModel", name := "schedule", desc := "(III)I" } : Jvm.MethodName) prog_15_method_85_code (5 : Nat) (Option.some Jvm.ClassFile.FieldType.int) ∈ tb := tb_at 2423 (by decide +kernel) rfl
theorem q2424 : Cond.constant "PinEnginesModel" (430 : Nat) (1000000 : Int32) ∈ tb := tb_at 2424 (by decide +kernel) rfl
theorem q2425 : Cond.methodLink "PinEnginesLaw" (240 : Nat) ({ cls := "PinEnginesModel", name := "poke", desc := "(II)I" } : Jvm.MethodName) ∈ tb := tb_at 2425 (by decide +kernel) rfl
theorem q2426 : Cond.instanceMethod ({ cls := "PinEnginesModel", name := "poke", desc := "(II)I" } : Jvm.MethodName) ∈ tb := tb_at 2426 (by decide +kernel) rfl
theorem q2427 : Cond.selects "PinEnginesModel" ({ cls := "PinEnginesModel", name := "poke", desc := "(II)I" } : Jvm.MethodName) ({ cls := "PinEnginesModel", name := "poke", desc := "(II)I" } : Jvm.MethodName) ∈ tb := tb_at 2427 (by decide +kernel) rfl
theorem q2428 : Cond.code ({ cls := "PinEnginesModel", name := "poke", desc := "(II)I" } : Jvm.MethodName) prog_15_method_86_code (4 : Nat) (Option.some Jvm.ClassFile.FieldType.int) ∈ tb := tb_at 2428 (by decide +kernel) rfl
theorem q2429 : Cond.methodLink "PinEnginesLaw" (243 : Nat) ({ cls := "PinEnginesModel", name := "run", desc := "(I)I" } : Jvm.MethodName) ∈ tb := tb_at 2429 (by decide +kernel) rfl
theorem q2430 : Cond.instanceMethod ({ cls := "PinEnginesModel", name := "run", desc := "(I)I" } : Jvm.MethodName) ∈ tb := tb_at 2430 (by decide +kernel) rfl
theorem q2431 : Cond.selects "PinEnginesModel" ({ cls := "PinEnginesModel", name := "run", desc := "(I)I" } : Jvm.MethodName) ({ cls := "PinEnginesModel", name := "run", desc := "(I)I" } : Jvm.MethodName) ∈ tb := tb_at 2431 (by decide +kernel) rfl
theorem q2432 : Cond.code ({ cls := "PinEnginesModel", name := "run", desc := "(I)I" } : Jvm.MethodName) prog_15_method_88_code (4 : Nat) (Option.some Jvm.ClassFile.FieldType.int) ∈ tb := tb_at 2432 (by decide +kernel) rfl
theorem q2433 : Cond.methodLink "PinEnginesModel" (431 : Nat) ({ cls := "PinEnginesModel", name := "doneByAll", desc := "()I" } : Jvm.MethodName) ∈ tb := tb_at 2433 (by decide +kernel) rfl
theorem q2435 : Cond.instanceMethod ({ cls := "PinEnginesModel", name := "doneByAll", desc := "()I" } : Jvm.MethodName) ∈ tb := tb_at 2435 (by decide +kernel) rfl
theorem q2436 : Cond.code ({ cls := "PinEnginesModel", name := "doneByAll", desc := "()I" } : Jvm.MethodName) prog_15_method_87_code (3 : Nat) (Option.some Jvm.ClassFile.FieldType.int) ∈ tb := tb_at 2436 (by decide +kernel) rfl
theorem q2437 : Cond.methodLink "PinEnginesModel" (435 : Nat) ({ cls := "PinEnginesModel", name := "passCycle", desc := "()V" } : Jvm.MethodName) ∈ tb := tb_at 2437 (by decide +kernel) rfl
theorem q2439 : Cond.instanceMethod ({ cls := "PinEnginesModel", name := "passCycle", desc := "()V" } : Jvm.MethodName) ∈ tb := tb_at 2439 (by decide +kernel) rfl
theorem q2440 : Cond.code ({ cls := "PinEnginesModel", name := "passCycle", desc := "()V" } : Jvm.MethodName) prog_15_method_50_code (2 : Nat) (Option.none : Option Jvm.ClassFile.FieldType) ∈ tb := tb_at 2440 (by decide +kernel) rfl
theorem q2441 : Cond.methodLink "PinEnginesModel" (306 : Nat) ({ cls := "PinEnginesModel", name := "applyScheduled", desc := "()V" } : Jvm.MethodName) ∈ tb := tb_at 2441 (by decide +kernel) rfl
theorem q2443 : Cond.instanceMethod ({ cls := "PinEnginesModel", name := "applyScheduled", desc := "()V" } : Jvm.MethodName) ∈ tb := tb_at 2443 (by decide +kernel) rfl
theorem q2444 : Cond.code ({ cls := "PinEnginesModel", name := "applyScheduled", desc := "()V" } : Jvm.MethodName) prog_15_method_42_code (5 : Nat) (Option.none : Option Jvm.ClassFile.FieldType) ∈ tb := tb_at 2444 (by decide +kernel) rfl
theorem q2445 : Cond.methodLink "PinEnginesModel" (309 : Nat) ({ cls := "PinEnginesModel", name := "readAll", desc := "()V" } : Jvm.MethodName) ∈ tb := tb_at 2445 (by decide +kernel) rfl
theorem q2447 : Cond.instanceMethod ({ cls := "PinEnginesModel", name := "readAll", desc := "()V" } : Jvm.MethodName) ∈ tb := tb_at 2447 (by decide +kernel) rfl
theorem q2448 : Cond.code ({ cls := "PinEnginesModel", name := "readAll", desc := "()V" } : Jvm.MethodName) prog_15_method_43_code (2 : Nat) (Option.none : Option Jvm.ClassFile.FieldType) ∈ tb := tb_at 2448 (by decide +kernel) rfl
theorem q2449 : Cond.methodLink "PinEnginesModel" (312 : Nat) ({ cls := "PinEnginesModel", name := "countOn", desc := "(I)V" } : Jvm.MethodName) ∈ tb := tb_at 2449 (by decide +kernel) rfl
theorem q2451 : Cond.instanceMethod ({ cls := "PinEnginesModel", name := "countOn", desc := "(I)V" } : Jvm.MethodName) ∈ tb := tb_at 2451 (by decide +kernel) rfl
theorem q2452 : Cond.code ({ cls := "PinEnginesModel", name := "countOn", desc := "(I)V" } : Jvm.MethodName) prog_15_method_44_code (3 : Nat) (Option.none : Option Jvm.ClassFile.FieldType) ∈ tb := tb_at 2452 (by decide +kernel) rfl
theorem q2453 : Cond.methodLink "PinEnginesModel" (316 : Nat) ({ cls := "PinEnginesModel", name := "givePort", desc := "()V" } : Jvm.MethodName) ∈ tb := tb_at 2453 (by decide +kernel) rfl
theorem q2455 : Cond.instanceMethod ({ cls := "PinEnginesModel", name := "givePort", desc := "()V" } : Jvm.MethodName) ∈ tb := tb_at 2455 (by decide +kernel) rfl
theorem q2456 : Cond.code ({ cls := "PinEnginesModel", name := "givePort", desc := "()V" } : Jvm.MethodName) prog_15_method_46_code (3 : Nat) (Option.none : Option Jvm.ClassFile.FieldType) ∈ tb := tb_at 2456 (by decide +kernel) rfl
theorem q2457 : Cond.methodLink "PinEnginesModel" (299 : Nat) ({ cls := "PinEnginesModel", name := "wantsPort", desc := "(I)Z" } : Jvm.MethodName) ∈ tb := tb_at 2457 (by decide +kernel) rfl
theorem q2459 : Cond.instanceMethod ({ cls := "PinEnginesModel", name := "wantsPort", desc := "(I)Z" } : Jvm.MethodName) ∈ tb := tb_at 2459 (by decide +kernel) rfl
theorem q2460 : Cond.code ({ cls := "PinEnginesModel", name := "wantsPort", desc := "(I)Z" } : Jvm.MethodName) prog_15_method_45_code (2 : Nat) (Option.some Jvm.ClassFile.FieldType.boolean) ∈ tb := tb_at 2460 (by decide +kernel) rfl
theorem q2461 : Cond.methodLink "PinEnginesModel" (293 : Nat) ({ cls := "PinEnginesModel", name := "codeOf", desc := "(II)I" } : Jvm.MethodName) ∈ tb := tb_at 2461 (by decide +kernel) rfl
theorem q2463 : Cond.instanceMethod ({ cls := "PinEnginesModel", name := "codeOf", desc := "(II)I" } : Jvm.MethodName) ∈ tb := tb_at 2463 (by decide +kernel) rfl
theorem q2464 : Cond.code ({ cls := "PinEnginesModel", name := "codeOf", desc := "(II)I" } : Jvm.MethodName) prog_15_method_14_code (3 : Nat) (Option.some Jvm.ClassFile.FieldType.int) ∈ tb := tb_at 2464 (by decide +kernel) rfl
theorem q2465 : Cond.methodLink "PinEnginesModel" (242 : Nat) ({ cls := "PinEnginesModel", name := "code", desc := "(II)I" } : Jvm.MethodName) ∈ tb := tb_at 2465 (by decide +kernel) rfl
theorem q2467 : Cond.instanceMethod ({ cls := "PinEnginesModel", name := "code", desc := "(II)I" } : Jvm.MethodName) ∈ tb := tb_at 2467 (by decide +kernel) rfl
theorem q2468 : Cond.code ({ cls := "PinEnginesModel", name := "code", desc := "(II)I" } : Jvm.MethodName) prog_15_method_13_code (3 : Nat) (Option.some Jvm.ClassFile.FieldType.int) ∈ tb := tb_at 2468 (by decide +kernel) rfl
theorem q2469 : Cond.methodLink "PinEnginesModel" (319 : Nat) ({ cls := "PinEnginesModel", name := "tick", desc := "(I)V" } : Jvm.MethodName) ∈ tb := tb_at 2469 (by decide +kernel) rfl
theorem q2471 : Cond.instanceMethod ({ cls := "PinEnginesModel", name := "tick", desc := "(I)V" } : Jvm.MethodName) ∈ tb := tb_at 2471 (by decide +kernel) rfl
theorem q2472 : Cond.code ({ cls := "PinEnginesModel", name := "tick", desc := "(I)V" } : Jvm.MethodName) prog_15_method_51_code (4 : Nat) (Option.none : Option Jvm.ClassFile.FieldType) ∈ tb := tb_at 2472 (by decide +kernel) rfl
theorem q2473 : Cond.methodLink "PinEnginesModel" (328 : Nat) ({ cls := "PinEnginesModel", name := "note", desc := "(II)V" } : Jvm.MethodName) ∈ tb := tb_at 2473 (by decide +kernel) rfl
theorem q2475 : Cond.instanceMethod ({ cls := "PinEnginesModel", name := "note", desc := "(II)V" } : Jvm.MethodName) ∈ tb := tb_at 2475 (by decide +kernel) rfl
theorem q2476 : Cond.code ({ cls := "PinEnginesModel", name := "note", desc := "(II)V" } : Jvm.MethodName) prog_15_method_11_code (3 : Nat) (Option.none : Option Jvm.ClassFile.FieldType) ∈ tb := tb_at 2476 (by decide +kernel) rfl
theorem q2477 : Cond.methodLink "PinEnginesModel" (335 : Nat) ({ cls := "PinEnginesModel", name := "execute", desc := "(I)I" } : Jvm.MethodName) ∈ tb := tb_at 2477 (by decide +kernel) rfl
theorem q2479 : Cond.instanceMethod ({ cls := "PinEnginesModel", name := "execute", desc := "(I)I" } : Jvm.MethodName) ∈ tb := tb_at 2479 (by decide +kernel) rfl
theorem q2480 : Cond.code ({ cls := "PinEnginesModel", name := "execute", desc := "(I)I" } : Jvm.MethodName) prog_15_method_53_code (3 : Nat) (Option.some Jvm.ClassFile.FieldType.int) ∈ tb := tb_at 2480 (by decide +kernel) rfl
theorem q2481 : Cond.methodLink "PinEnginesModel" (341 : Nat) ({ cls := "PinEnginesModel", name := "jump", desc := "(II)I" } : Jvm.MethodName) ∈ tb := tb_at 2481 (by decide +kernel) rfl
theorem q2483 : Cond.instanceMethod ({ cls := "PinEnginesModel", name := "jump", desc := "(II)I" } : Jvm.MethodName) ∈ tb := tb_at 2483 (by decide +kernel) rfl
theorem q2484 : Cond.code ({ cls := "PinEnginesModel", name := "jump", desc := "(II)I" } : Jvm.MethodName) prog_15_method_57_code (3 : Nat) (Option.some Jvm.ClassFile.FieldType.int) ∈ tb := tb_at 2484 (by decide +kernel) rfl
theorem q2485 : Cond.methodLink "PinEnginesModel" (378 : Nat) ({ cls := "PinEnginesModel", name := "holds", desc := "(II)Z" } : Jvm.MethodName) ∈ tb := tb_at 2485 (by decide +kernel) rfl
theorem q2487 : Cond.instanceMethod ({ cls := "PinEnginesModel", name := "holds", desc := "(II)Z" } : Jvm.MethodName) ∈ tb := tb_at 2487 (by decide +kernel) rfl
theorem q2488 : Cond.code ({ cls := "PinEnginesModel", name := "holds", desc := "(II)Z" } : Jvm.MethodName) prog_15_method_56_code (3 : Nat) (Option.some Jvm.ClassFile.FieldType.boolean) ∈ tb := tb_at 2488 (by decide +kernel) rfl
theorem q2489 : Cond.methodLink "PinEnginesModel" (374 : Nat) ({ cls := "PinEnginesModel", name := "decrease", desc := "(II)Z" } : Jvm.MethodName) ∈ tb := tb_at 2489 (by decide +kernel) rfl
theorem q2491 : Cond.instanceMethod ({ cls := "PinEnginesModel", name := "decrease", desc := "(II)Z" } : Jvm.MethodName) ∈ tb := tb_at 2491 (by decide +kernel) rfl
theorem q2492 : Cond.code ({ cls := "PinEnginesModel", name := "decrease", desc := "(II)Z" } : Jvm.MethodName) prog_15_method_55_code (4 : Nat) (Option.some Jvm.ClassFile.FieldType.boolean) ∈ tb := tb_at 2492 (by decide +kernel) rfl
theorem q2493 : Cond.methodLink "PinEnginesModel" (344 : Nat) ({ cls := "PinEnginesModel", name := "waitFor", desc := "(II)I" } : Jvm.MethodName) ∈ tb := tb_at 2493 (by decide +kernel) rfl
theorem q2495 : Cond.instanceMethod ({ cls := "PinEnginesModel", name := "waitFor", desc := "(II)I" } : Jvm.MethodName) ∈ tb := tb_at 2495 (by decide +kernel) rfl
theorem q2496 : Cond.code ({ cls := "PinEnginesModel", name := "waitFor", desc := "(II)I" } : Jvm.MethodName) prog_15_method_58_code (6 : Nat) (Option.some Jvm.ClassFile.FieldType.int) ∈ tb := tb_at 2496 (by decide +kernel) rfl
theorem q2497 : Cond.methodLink "PinEnginesModel" (347 : Nat) ({ cls := "PinEnginesModel", name := "source", desc := "(II)I" } : Jvm.MethodName) ∈ tb := tb_at 2497 (by decide +kernel) rfl
theorem q2499 : Cond.instanceMethod ({ cls := "PinEnginesModel", name := "source", desc := "(II)I" } : Jvm.MethodName) ∈ tb := tb_at 2499 (by decide +kernel) rfl
theorem q2500 : Cond.code ({ cls := "PinEnginesModel", name := "source", desc := "(II)I" } : Jvm.MethodName) prog_15_method_61_code (3 : Nat) (Option.some Jvm.ClassFile.FieldType.int) ∈ tb := tb_at 2500 (by decide +kernel) rfl
theorem q2501 : Cond.methodLink "PinEnginesModel" (381 : Nat) ({ cls := "PinEnginesModel", name := "pinValue", desc := "(I)I" } : Jvm.MethodName) ∈ tb := tb_at 2501 (by decide +kernel) rfl
theorem q2503 : Cond.instanceMethod ({ cls := "PinEnginesModel", name := "pinValue", desc := "(I)I" } : Jvm.MethodName) ∈ tb := tb_at 2503 (by decide +kernel) rfl
theorem q2504 : Cond.code ({ cls := "PinEnginesModel", name := "pinValue", desc := "(I)I" } : Jvm.MethodName) prog_15_method_60_code (4 : Nat) (Option.some Jvm.ClassFile.FieldType.int) ∈ tb := tb_at 2504 (by decide +kernel) rfl
theorem q2505 : Cond.methodLink "PinEnginesModel" (350 : Nat) ({ cls := "PinEnginesModel", name := "shiftIn", desc := "(III)I" } : Jvm.MethodName) ∈ tb := tb_at 2505 (by decide +kernel) rfl
theorem q2507 : Cond.instanceMethod ({ cls := "PinEnginesModel", name := "shiftIn", desc := "(III)I" } : Jvm.MethodName) ∈ tb := tb_at 2507 (by decide +kernel) rfl
theorem q2508 : Cond.code ({ cls := "PinEnginesModel", name := "shiftIn", desc := "(III)I" } : Jvm.MethodName) prog_15_method_63_code (10 : Nat) (Option.some Jvm.ClassFile.FieldType.int) ∈ tb := tb_at 2508 (by decide +kernel) rfl
theorem q2509 : Cond.methodLink "PinEnginesModel" (384 : Nat) ({ cls := "PinEnginesModel", name := "lowest", desc := "(II)I" } : Jvm.MethodName) ∈ tb := tb_at 2509 (by decide +kernel) rfl
theorem q2510 : Cond.static ({ cls := "PinEnginesModel", name := "lowest", desc := "(II)I" } : Jvm.MethodName) ∈ tb := tb_at 2510 (by decide +kernel) rfl
theorem q2511 : Cond.code ({ cls := "PinEnginesModel", name := "lowest", desc := "(II)I" } : Jvm.MethodName) prog_15_method_62_code (2 : Nat) (Option.some Jvm.ClassFile.FieldType.int) ∈ tb := tb_at 2511 (by decide +kernel) rfl
theorem q2512 : Cond.methodLink "PinEnginesModel" (387 : Nat) ({ cls := "java/lang/Math", name := "min", desc := "(II)I" } : Jvm.MethodName) ∈ tb := tb_at 2512 (by decide +kernel) rfl
theorem q2513 : Cond.methodLink "PinEnginesModel" (396 : Nat) ({ cls := "PinEnginesModel", name := "appendShifted", desc := "(I)V" } : Jvm.MethodName) ∈ tb := tb_at 2513 (by decide +kernel) rfl
theorem q2515 : Cond.instanceMethod ({ cls := "PinEnginesModel", name := "appendShifted", desc := "(I)V" } : Jvm.MethodName) ∈ tb := tb_at 2515 (by decide +kernel) rfl
theorem q2516 : Cond.code ({ cls := "PinEnginesModel", name := "appendShifted", desc := "(I)V" } : Jvm.MethodName) prog_15_method_64_code (2 : Nat) (Option.none : Option Jvm.ClassFile.FieldType) ∈ tb := tb_at 2516 (by decide +kernel) rfl
theorem q2517 : Cond.methodLink "PinEnginesModel" (403 : Nat) ({ cls := "PinEnginesModel", name := "emptyShifted", desc := "(I)V" } : Jvm.MethodName) ∈ tb := tb_at 2517 (by decide +kernel) rfl
theorem q2519 : Cond.instanceMethod ({ cls := "PinEnginesModel", name := "emptyShifted", desc := "(I)V" } : Jvm.MethodName) ∈ tb := tb_at 2519 (by decide +kernel) rfl
theorem q2520 : Cond.code ({ cls := "PinEnginesModel", name := "emptyShifted", desc := "(I)V" } : Jvm.MethodName) prog_15_method_65_code (2 : Nat) (Option.none : Option Jvm.ClassFile.FieldType) ∈ tb := tb_at 2520 (by decide +kernel) rfl
theorem q2521 : Cond.methodLink "PinEnginesModel" (354 : Nat) ({ cls := "PinEnginesModel", name := "shiftOut", desc := "(III)I" } : Jvm.MethodName) ∈ tb := tb_at 2521 (by decide +kernel) rfl
theorem q2523 : Cond.instanceMethod ({ cls := "PinEnginesModel", name := "shiftOut", desc := "(III)I" } : Jvm.MethodName) ∈ tb := tb_at 2523 (by decide +kernel) rfl
theorem q2524 : Cond.code ({ cls := "PinEnginesModel", name := "shiftOut", desc := "(III)I" } : Jvm.MethodName) prog_15_method_67_code (7 : Nat) (Option.some Jvm.ClassFile.FieldType.int) ∈ tb := tb_at 2524 (by decide +kernel) rfl
theorem q2525 : Cond.methodLink "PinEnginesModel" (410 : Nat) ({ cls := "PinEnginesModel", name := "refill", desc := "(I)V" } : Jvm.MethodName) ∈ tb := tb_at 2525 (by decide +kernel) rfl
theorem q2527 : Cond.instanceMethod ({ cls := "PinEnginesModel", name := "refill", desc := "(I)V" } : Jvm.MethodName) ∈ tb := tb_at 2527 (by decide +kernel) rfl
theorem q2528 : Cond.code ({ cls := "PinEnginesModel", name := "refill", desc := "(I)V" } : Jvm.MethodName) prog_15_method_66_code (2 : Nat) (Option.none : Option Jvm.ClassFile.FieldType) ∈ tb := tb_at 2528 (by decide +kernel) rfl
theorem q2529 : Cond.methodLink "PinEnginesModel" (413 : Nat) ({ cls := "PinEnginesModel", name := "write", desc := "(IIII)I" } : Jvm.MethodName) ∈ tb := tb_at 2529 (by decide +kernel) rfl
theorem q2531 : Cond.instanceMethod ({ cls := "PinEnginesModel", name := "write", desc := "(IIII)I" } : Jvm.MethodName) ∈ tb := tb_at 2531 (by decide +kernel) rfl
theorem q2532 : Cond.code ({ cls := "PinEnginesModel", name := "write", desc := "(IIII)I" } : Jvm.MethodName) prog_15_method_68_code (5 : Nat) (Option.some Jvm.ClassFile.FieldType.int) ∈ tb := tb_at 2532 (by decide +kernel) rfl
theorem q2533 : Cond.methodLink "PinEnginesModel" (416 : Nat) ({ cls := "PinEnginesModel", name := "jumpToWord", desc := "(I)V" } : Jvm.MethodName) ∈ tb := tb_at 2533 (by decide +kernel) rfl
theorem q2535 : Cond.instanceMethod ({ cls := "PinEnginesModel", name := "jumpToWord", desc := "(I)V" } : Jvm.MethodName) ∈ tb := tb_at 2535 (by decide +kernel) rfl
theorem q2536 : Cond.code ({ cls := "PinEnginesModel", name := "jumpToWord", desc := "(I)V" } : Jvm.MethodName) prog_15_method_54_code (2 : Nat) (Option.none : Option Jvm.ClassFile.FieldType) ∈ tb := tb_at 2536 (by decide +kernel) rfl
theorem q2537 : Cond.methodLink "PinEnginesModel" (357 : Nat) ({ cls := "PinEnginesModel", name := "push", desc := "(IZZ)I" } : Jvm.MethodName) ∈ tb := tb_at 2537 (by decide +kernel) rfl
theorem q2539 : Cond.instanceMethod ({ cls := "PinEnginesModel", name := "push", desc := "(IZZ)I" } : Jvm.MethodName) ∈ tb := tb_at 2539 (by decide +kernel) rfl
theorem q2540 : Cond.code ({ cls := "PinEnginesModel", name := "push", desc := "(IZZ)I" } : Jvm.MethodName) prog_15_method_69_code (4 : Nat) (Option.some Jvm.ClassFile.FieldType.int) ∈ tb := tb_at 2540 (by decide +kernel) rfl
theorem q2541 : Cond.methodLink "PinEnginesModel" (360 : Nat) ({ cls := "PinEnginesModel", name := "pull", desc := "(IZZ)I" } : Jvm.MethodName) ∈ tb := tb_at 2541 (by decide +kernel) rfl
theorem q2543 : Cond.instanceMethod ({ cls := "PinEnginesModel", name := "pull", desc := "(IZZ)I" } : Jvm.MethodName) ∈ tb := tb_at 2543 (by decide +kernel) rfl
theorem q2544 : Cond.code ({ cls := "PinEnginesModel", name := "pull", desc := "(IZZ)I" } : Jvm.MethodName) prog_15_method_70_code (4 : Nat) (Option.some Jvm.ClassFile.FieldType.int) ∈ tb := tb_at 2544 (by decide +kernel) rfl
theorem q2545 : Cond.methodLink "PinEnginesModel" (362 : Nat) ({ cls := "PinEnginesModel", name := "move", desc := "(IIII)I" } : Jvm.MethodName) ∈ tb := tb_at 2545 (by decide +kernel) rfl
theorem q2547 : Cond.instanceMethod ({ cls := "PinEnginesModel", name := "move", desc := "(IIII)I" } : Jvm.MethodName) ∈ tb := tb_at 2547 (by decide +kernel) rfl
theorem q2548 : Cond.code ({ cls := "PinEnginesModel", name := "move", desc := "(IIII)I" } : Jvm.MethodName) prog_15_method_72_code (6 : Nat) (Option.some Jvm.ClassFile.FieldType.int) ∈ tb := tb_at 2548 (by decide +kernel) rfl
theorem q2549 : Cond.methodLink "PinEnginesModel" (419 : Nat) ({ cls := "PinEnginesModel", name := "reversed", desc := "(I)I" } : Jvm.MethodName) ∈ tb := tb_at 2549 (by decide +kernel) rfl
theorem q2550 : Cond.static ({ cls := "PinEnginesModel", name := "reversed", desc := "(I)I" } : Jvm.MethodName) ∈ tb := tb_at 2550 (by decide +kernel) rfl
theorem q2551 : Cond.code ({ cls := "PinEnginesModel", name := "reversed", desc := "(I)I" } : Jvm.MethodName) prog_15_method_71_code (3 : Nat) (Option.some Jvm.ClassFile.FieldType.int) ∈ tb := tb_at 2551 (by decide +kernel) rfl
theorem q2552 : Cond.methodLink "PinEnginesModel" (366 : Nat) ({ cls := "PinEnginesModel", name := "signal", desc := "(II)I" } : Jvm.MethodName) ∈ tb := tb_at 2552 (by decide +kernel) rfl
theorem q2554 : Cond.instanceMethod ({ cls := "PinEnginesModel", name := "signal", desc := "(II)I" } : Jvm.MethodName) ∈ tb := tb_at 2554 (by decide +kernel) rfl
theorem q2555 : Cond.code ({ cls := "PinEnginesModel", name := "signal", desc := "(II)I" } : Jvm.MethodName) prog_15_method_59_code (3 : Nat) (Option.some Jvm.ClassFile.FieldType.int) ∈ tb := tb_at 2555 (by decide +kernel) rfl
theorem q2556 : Cond.methodLink "PinEnginesModel" (368 : Nat) ({ cls := "PinEnginesModel", name := "assign", desc := "(III)I" } : Jvm.MethodName) ∈ tb := tb_at 2556 (by decide +kernel) rfl
theorem q2558 : Cond.instanceMethod ({ cls := "PinEnginesModel", name := "assign", desc := "(III)I" } : Jvm.MethodName) ∈ tb := tb_at 2558 (by decide +kernel) rfl
theorem q2559 : Cond.code ({ cls := "PinEnginesModel", name := "assign", desc := "(III)I" } : Jvm.MethodName) prog_15_method_73_code (4 : Nat) (Option.some Jvm.ClassFile.FieldType.int) ∈ tb := tb_at 2559 (by decide +kernel) rfl
theorem q2560 : Cond.methodLink "PinEnginesModel" (371 : Nat) ({ cls := "PinEnginesModel", name := "access", desc := "(II)I" } : Jvm.MethodName) ∈ tb := tb_at 2560 (by decide +kernel) rfl
theorem q2562 : Cond.instanceMethod ({ cls := "PinEnginesModel", name := "access", desc := "(II)I" } : Jvm.MethodName) ∈ tb := tb_at 2562 (by decide +kernel) rfl
theorem q2563 : Cond.code ({ cls := "PinEnginesModel", name := "access", desc := "(II)I" } : Jvm.MethodName) prog_15_method_74_code (5 : Nat) (Option.some Jvm.ClassFile.FieldType.int) ∈ tb := tb_at 2563 (by decide +kernel) rfl
theorem q2564 : Cond.methodLink "PinEnginesModel" (338 : Nat) ({ cls := "PinEnginesModel", name := "nextAddress", desc := "(I)I" } : Jvm.MethodName) ∈ tb := tb_at 2564 (by decide +kernel) rfl
theorem q2566 : Cond.instanceMethod ({ cls := "PinEnginesModel", name := "nextAddress", desc := "(I)I" } : Jvm.MethodName) ∈ tb := tb_at 2566 (by decide +kernel) rfl
theorem q2567 : Cond.code ({ cls := "PinEnginesModel", name := "nextAddress", desc := "(I)I" } : Jvm.MethodName) prog_15_method_52_code (3 : Nat) (Option.some Jvm.ClassFile.FieldType.int) ∈ tb := tb_at 2567 (by decide +kernel) rfl
theorem q2568 : Cond.methodLink "PinEnginesModel" (322 : Nat) ({ cls := "PinEnginesModel", name := "writeAll", desc := "(I)V" } : Jvm.MethodName) ∈ tb := tb_at 2568 (by decide +kernel) rfl
theorem q2570 : Cond.instanceMethod ({ cls := "PinEnginesModel", name := "writeAll", desc := "(I)V" } : Jvm.MethodName) ∈ tb := tb_at 2570 (by decide +kernel) rfl
theorem q2571 : Cond.code ({ cls := "PinEnginesModel", name := "writeAll", desc := "(I)V" } : Jvm.MethodName) prog_15_method_48_code (2 : Nat) (Option.none : Option Jvm.ClassFile.FieldType) ∈ tb := tb_at 2571 (by decide +kernel) rfl
theorem q2572 : Cond.methodLink "PinEnginesModel" (302 : Nat) ({ cls := "PinEnginesModel", name := "writeBits", desc := "(IIIZ)V" } : Jvm.MethodName) ∈ tb := tb_at 2572 (by decide +kernel) rfl
theorem q2574 : Cond.instanceMethod ({ cls := "PinEnginesModel", name := "writeBits", desc := "(IIIZ)V" } : Jvm.MethodName) ∈ tb := tb_at 2574 (by decide +kernel) rfl
theorem q2575 : Cond.code ({ cls := "PinEnginesModel", name := "writeBits", desc := "(IIIZ)V" } : Jvm.MethodName) prog_15_method_47_code (6 : Nat) (Option.none : Option Jvm.ClassFile.FieldType) ∈ tb := tb_at 2575 (by decide +kernel) rfl
theorem q2576 : Cond.methodLink "PinEnginesModel" (325 : Nat) ({ cls := "PinEnginesModel", name := "recordLevels", desc := "()V" } : Jvm.MethodName) ∈ tb := tb_at 2576 (by decide +kernel) rfl
theorem q2578 : Cond.instanceMethod ({ cls := "PinEnginesModel", name := "recordLevels", desc := "()V" } : Jvm.MethodName) ∈ tb := tb_at 2578 (by decide +kernel) rfl
theorem q2579 : Cond.code ({ cls := "PinEnginesModel", name := "recordLevels", desc := "()V" } : Jvm.MethodName) prog_15_method_49_code (4 : Nat) (Option.none : Option Jvm.ClassFile.FieldType) ∈ tb := tb_at 2579 (by decide +kernel) rfl
theorem q2580 : Cond.methodLink "PinEnginesLaw" (246 : Nat) ({ cls := "PinEnginesModel", name := "cyclesUntil", desc := "(III)I" } : Jvm.MethodName) ∈ tb := tb_at 2580 (by decide +kernel) rfl
theorem q2581 : Cond.instanceMethod ({ cls := "PinEnginesModel", name := "cyclesUntil", desc := "(III)I" } : Jvm.MethodName) ∈ tb := tb_at 2581 (by decide +kernel) rfl
theorem q2582 : Cond.selects "PinEnginesModel" ({ cls := "PinEnginesModel", name := "cyclesUntil", desc := "(III)I" } : Jvm.MethodName) ({ cls := "PinEnginesModel", name := "cyclesUntil", desc := "(III)I" } : Jvm.MethodName) ∈ tb := tb_at 2582 (by decide +kernel) rfl
theorem q2583 : Cond.code ({ cls := "PinEnginesModel", name := "cyclesUntil", desc := "(III)I" } : Jvm.MethodName) prog_15_method_90_code (6 : Nat) (Option.some Jvm.ClassFile.FieldType.int) ∈ tb := tb_at 2583 (by decide +kernel) rfl
theorem q2584 : Cond.methodLink "PinEnginesModel" (438 : Nat) ({ cls := "PinEnginesModel", name := "isLimit", desc := "(I)Z" } : Jvm.MethodName) ∈ tb := tb_at 2584 (by decide +kernel) rfl
theorem q2585 : Cond.static ({ cls := "PinEnginesModel", name := "isLimit", desc := "(I)Z" } : Jvm.MethodName) ∈ tb := tb_at 2585 (by decide +kernel) rfl
theorem q2586 : Cond.code ({ cls := "PinEnginesModel", name := "isLimit", desc := "(I)Z" } : Jvm.MethodName) prog_15_method_89_code (1 : Nat) (Option.some Jvm.ClassFile.FieldType.boolean) ∈ tb := tb_at 2586 (by decide +kernel) rfl
theorem q2587 : Cond.methodLink "PinEnginesLaw" (249 : Nat) ({ cls := "PinEnginesModel", name := "cyclesTo", desc := "(III)I" } : Jvm.MethodName) ∈ tb := tb_at 2587 (by decide +kernel) rfl
theorem q2588 : Cond.instanceMethod ({ cls := "PinEnginesModel", name := "cyclesTo", desc := "(III)I" } : Jvm.MethodName) ∈ tb := tb_at 2588 (by decide +kernel) rfl
theorem q2589 : Cond.selects "PinEnginesModel" ({ cls := "PinEnginesModel", name := "cyclesTo", desc := "(III)I" } : Jvm.MethodName) ({ cls := "PinEnginesModel", name := "cyclesTo", desc := "(III)I" } : Jvm.MethodName) ∈ tb := tb_at 2589 (by decide +kernel) rfl
theorem q2590 : Cond.code ({ cls := "PinEnginesModel", name := "cyclesTo", desc := "(III)I" } : Jvm.MethodName) prog_15_method_91_code (6 : Nat) (Option.some Jvm.ClassFile.FieldType.int) ∈ tb := tb_at 2590 (by decide +kernel) rfl
theorem q2591 : Cond.methodLink "PinEnginesLaw" (252 : Nat) ({ cls := "PinEnginesModel", name := "period", desc := "(II)I" } : Jvm.MethodName) ∈ tb := tb_at 2591 (by decide +kernel) rfl
theorem q2592 : Cond.instanceMethod ({ cls := "PinEnginesModel", name := "period", desc := "(II)I" } : Jvm.MethodName) ∈ tb := tb_at 2592 (by decide +kernel) rfl
theorem q2593 : Cond.selects "PinEnginesModel" ({ cls := "PinEnginesModel", name := "period", desc := "(II)I" } : Jvm.MethodName) ({ cls := "PinEnginesModel", name := "period", desc := "(II)I" } : Jvm.MethodName) ∈ tb := tb_at 2593 (by decide +kernel) rfl
theorem q2594 : Cond.code ({ cls := "PinEnginesModel", name := "period", desc := "(II)I" } : Jvm.MethodName) prog_15_method_92_code (7 : Nat) (Option.some Jvm.ClassFile.FieldType.int) ∈ tb := tb_at 2594 (by decide +kernel) rfl
theorem q2595 : Cond.methodLink "PinEnginesLaw" (255 : Nat) ({ cls := "PinEnginesModel", name := "stuck", desc := "(I)I" } : Jvm.MethodName) ∈ tb := tb_at 2595 (by decide +kernel) rfl
theorem q2596 : Cond.instanceMethod ({ cls := "PinEnginesModel", name := "stuck", desc := "(I)I" } : Jvm.MethodName) ∈ tb := tb_at 2596 (by decide +kernel) rfl
theorem q2597 : Cond.selects "PinEnginesModel" ({ cls := "PinEnginesModel", name := "stuck", desc := "(I)I" } : Jvm.MethodName) ({ cls := "PinEnginesModel", name := "stuck", desc := "(I)I" } : Jvm.MethodName) ∈ tb := tb_at 2597 (by decide +kernel) rfl
theorem q2598 : Cond.code ({ cls := "PinEnginesModel", name := "stuck", desc := "(I)I" } : Jvm.MethodName) prog_15_method_93_code (5 : Nat) (Option.some Jvm.ClassFile.FieldType.int) ∈ tb := tb_at 2598 (by decide +kernel) rfl
theorem q2599 : Cond.methodLink "PinEnginesLaw" (258 : Nat) ({ cls := "PinEnginesModel", name := "divider", desc := "(II)I" } : Jvm.MethodName) ∈ tb := tb_at 2599 (by decide +kernel) rfl
theorem q2600 : Cond.instanceMethod ({ cls := "PinEnginesModel", name := "divider", desc := "(II)I" } : Jvm.MethodName) ∈ tb := tb_at 2600 (by decide +kernel) rfl
theorem q2601 : Cond.selects "PinEnginesModel" ({ cls := "PinEnginesModel", name := "divider", desc := "(II)I" } : Jvm.MethodName) ({ cls := "PinEnginesModel", name := "divider", desc := "(II)I" } : Jvm.MethodName) ∈ tb := tb_at 2601 (by decide +kernel) rfl
theorem q2602 : Cond.code ({ cls := "PinEnginesModel", name := "divider", desc := "(II)I" } : Jvm.MethodName) prog_15_method_94_code (13 : Nat) (Option.some Jvm.ClassFile.FieldType.int) ∈ tb := tb_at 2602 (by decide +kernel) rfl
theorem q2603 : Cond.constantLong "PinEnginesModel" (445 : Nat) (256 : Int64) ∈ tb := tb_at 2603 (by decide +kernel) rfl
theorem q2604 : Cond.constantLong "PinEnginesModel" (447 : Nat) (65535 : Int64) ∈ tb := tb_at 2604 (by decide +kernel) rfl
theorem q2605 : Cond.methodLink "PinEnginesModel" (449 : Nat) ({ cls := "java/lang/Math", name := "min", desc := "(JJ)J" } : Jvm.MethodName) ∈ tb := tb_at 2605 (by decide +kernel) rfl
theorem q2606 : Cond.static ({ cls := "java/lang/Math", name := "min", desc := "(JJ)J" } : Jvm.MethodName) ∈ tb := tb_at 2606 (by decide +kernel) rfl
theorem q2607 : Cond.code Lib.MathLoose.min_long.x Lib.MathLoose.min_long.code 4 (Option.some Jvm.ClassFile.FieldType.long) ∈ tb := tb_at 2607 (by decide +kernel) rfl
theorem q2608 : Cond.methodLink "PinEnginesModel" (452 : Nat) ({ cls := "java/lang/Math", name := "max", desc := "(JJ)J" } : Jvm.MethodName) ∈ tb := tb_at 2608 (by decide +kernel) rfl
theorem q2609 : Cond.static ({ cls := "java/lang/Math", name := "max", desc := "(JJ)J" } : Jvm.MethodName) ∈ tb := tb_at 2609 (by decide +kernel) rfl
theorem q2610 : Cond.code Lib.MathLoose.max_long.x Lib.MathLoose.max_long.code 4 (Option.some Jvm.ClassFile.FieldType.long) ∈ tb := tb_at 2610 (by decide +kernel) rfl
theorem q2611 : Cond.methodLink "PinEnginesModel" (455 : Nat) ({ cls := "java/lang/Math", name := "abs", desc := "(J)J" } : Jvm.MethodName) ∈ tb := tb_at 2611 (by decide +kernel) rfl
theorem q2612 : Cond.static ({ cls := "java/lang/Math", name := "abs", desc := "(J)J" } : Jvm.MethodName) ∈ tb := tb_at 2612 (by decide +kernel) rfl
theorem q2613 : Cond.code Lib.MathLoose.abs_long.x Lib.MathLoose.abs_long.code 2 (Option.some Jvm.ClassFile.FieldType.long) ∈ tb := tb_at 2613 (by decide +kernel) rfl
theorem q2614 : Cond.methodLink "PinEnginesLaw" (269 : Nat) ({ cls := "PinEnginesModel", name := "undoCount", desc := "()I" } : Jvm.MethodName) ∈ tb := tb_at 2614 (by decide +kernel) rfl
theorem q2615 : Cond.instanceMethod ({ cls := "PinEnginesModel", name := "undoCount", desc := "()I" } : Jvm.MethodName) ∈ tb := tb_at 2615 (by decide +kernel) rfl
theorem q2616 : Cond.selects "PinEnginesModel" ({ cls := "PinEnginesModel", name := "undoCount", desc := "()I" } : Jvm.MethodName) ({ cls := "PinEnginesModel", name := "undoCount", desc := "()I" } : Jvm.MethodName) ∈ tb := tb_at 2616 (by decide +kernel) rfl
theorem q2617 : Cond.code ({ cls := "PinEnginesModel", name := "undoCount", desc := "()I" } : Jvm.MethodName) prog_15_method_97_code (1 : Nat) (Option.some Jvm.ClassFile.FieldType.int) ∈ tb := tb_at 2617 (by decide +kernel) rfl
theorem q2618 : Cond.methodLink "PinEnginesLaw" (273 : Nat) ({ cls := "PinEnginesModel", name := "undo", desc := "()I" } : Jvm.MethodName) ∈ tb := tb_at 2618 (by decide +kernel) rfl
theorem q2619 : Cond.instanceMethod ({ cls := "PinEnginesModel", name := "undo", desc := "()I" } : Jvm.MethodName) ∈ tb := tb_at 2619 (by decide +kernel) rfl
theorem q2620 : Cond.selects "PinEnginesModel" ({ cls := "PinEnginesModel", name := "undo", desc := "()I" } : Jvm.MethodName) ({ cls := "PinEnginesModel", name := "undo", desc := "()I" } : Jvm.MethodName) ∈ tb := tb_at 2620 (by decide +kernel) rfl
theorem q2621 : Cond.code ({ cls := "PinEnginesModel", name := "undo", desc := "()I" } : Jvm.MethodName) prog_15_method_98_code (1 : Nat) (Option.some Jvm.ClassFile.FieldType.int) ∈ tb := tb_at 2621 (by decide +kernel) rfl
theorem q2622 : Cond.methodLink "PinEnginesLaw" (277 : Nat) ({ cls := "PinEnginesModel", name := "saveSnapshot", desc := "()V" } : Jvm.MethodName) ∈ tb := tb_at 2622 (by decide +kernel) rfl
theorem q2623 : Cond.instanceMethod ({ cls := "PinEnginesModel", name := "saveSnapshot", desc := "()V" } : Jvm.MethodName) ∈ tb := tb_at 2623 (by decide +kernel) rfl
theorem q2624 : Cond.selects "PinEnginesModel" ({ cls := "PinEnginesModel", name := "saveSnapshot", desc := "()V" } : Jvm.MethodName) ({ cls := "PinEnginesModel", name := "saveSnapshot", desc := "()V" } : Jvm.MethodName) ∈ tb := tb_at 2624 (by decide +kernel) rfl
theorem q2625 : Cond.code ({ cls := "PinEnginesModel", name := "saveSnapshot", desc := "()V" } : Jvm.MethodName) prog_15_method_99_code (1 : Nat) (Option.none : Option Jvm.ClassFile.FieldType) ∈ tb := tb_at 2625 (by decide +kernel) rfl
theorem q2626 : Cond.methodLink "PinEnginesLaw" (282 : Nat) ({ cls := "PinEnginesModel", name := "restoreSnapshot", desc := "()Z" } : Jvm.MethodName) ∈ tb := tb_at 2626 (by decide +kernel) rfl
theorem q2627 : Cond.instanceMethod ({ cls := "PinEnginesModel", name := "restoreSnapshot", desc := "()Z" } : Jvm.MethodName) ∈ tb := tb_at 2627 (by decide +kernel) rfl
theorem q2628 : Cond.selects "PinEnginesModel" ({ cls := "PinEnginesModel", name := "restoreSnapshot", desc := "()Z" } : Jvm.MethodName) ({ cls := "PinEnginesModel", name := "restoreSnapshot", desc := "()Z" } : Jvm.MethodName) ∈ tb := tb_at 2628 (by decide +kernel) rfl
theorem q2629 : Cond.code ({ cls := "PinEnginesModel", name := "restoreSnapshot", desc := "()Z" } : Jvm.MethodName) prog_15_method_100_code (1 : Nat) (Option.some Jvm.ClassFile.FieldType.boolean) ∈ tb := tb_at 2629 (by decide +kernel) rfl
theorem q2630 : Cond.methodLink "PinEnginesLaw" (131 : Nat) ({ cls := "PinEnginesModel", name := "feed", desc := "(IIIII)I" } : Jvm.MethodName) ∈ tb := tb_at 2630 (by decide +kernel) rfl
theorem q2631 : Cond.instanceMethod ({ cls := "PinEnginesModel", name := "feed", desc := "(IIIII)I" } : Jvm.MethodName) ∈ tb := tb_at 2631 (by decide +kernel) rfl
theorem q2632 : Cond.selects "PinEnginesModel" ({ cls := "PinEnginesModel", name := "feed", desc := "(IIIII)I" } : Jvm.MethodName) ({ cls := "PinEnginesModel", name := "feed", desc := "(IIIII)I" } : Jvm.MethodName) ∈ tb := tb_at 2632 (by decide +kernel) rfl
theorem q2633 : Cond.code ({ cls := "PinEnginesModel", name := "feed", desc := "(IIIII)I" } : Jvm.MethodName) prog_15_method_101_code (8 : Nat) (Option.some Jvm.ClassFile.FieldType.int) ∈ tb := tb_at 2633 (by decide +kernel) rfl
theorem q2634 : Cond.methodLink "PinEnginesLaw" (145 : Nat) ({ cls := "PinEnginesModel", name := "errorPosition", desc := "()I" } : Jvm.MethodName) ∈ tb := tb_at 2634 (by decide +kernel) rfl
theorem q2635 : Cond.instanceMethod ({ cls := "PinEnginesModel", name := "errorPosition", desc := "()I" } : Jvm.MethodName) ∈ tb := tb_at 2635 (by decide +kernel) rfl
theorem q2636 : Cond.selects "PinEnginesModel" ({ cls := "PinEnginesModel", name := "errorPosition", desc := "()I" } : Jvm.MethodName) ({ cls := "PinEnginesModel", name := "errorPosition", desc := "()I" } : Jvm.MethodName) ∈ tb := tb_at 2636 (by decide +kernel) rfl
theorem q2637 : Cond.code ({ cls := "PinEnginesModel", name := "errorPosition", desc := "()I" } : Jvm.MethodName) prog_15_method_102_code (1 : Nat) (Option.some Jvm.ClassFile.FieldType.int) ∈ tb := tb_at 2637 (by decide +kernel) rfl
theorem q2638 : Cond.methodLink "PinEnginesLaw" (137 : Nat) ({ cls := "PinEnginesModel", name := "load", desc := "(I)I" } : Jvm.MethodName) ∈ tb := tb_at 2638 (by decide +kernel) rfl
theorem q2639 : Cond.instanceMethod ({ cls := "PinEnginesModel", name := "load", desc := "(I)I" } : Jvm.MethodName) ∈ tb := tb_at 2639 (by decide +kernel) rfl
theorem q2640 : Cond.selects "PinEnginesModel" ({ cls := "PinEnginesModel", name := "load", desc := "(I)I" } : Jvm.MethodName) ({ cls := "PinEnginesModel", name := "load", desc := "(I)I" } : Jvm.MethodName) ∈ tb := tb_at 2640 (by decide +kernel) rfl
theorem q2641 : Cond.code ({ cls := "PinEnginesModel", name := "load", desc := "(I)I" } : Jvm.MethodName) prog_15_method_144_code (3 : Nat) (Option.some Jvm.ClassFile.FieldType.int) ∈ tb := tb_at 2641 (by decide +kernel) rfl
theorem q2642 : Cond.methodLink "PinEnginesModel" (618 : Nat) ({ cls := "PinEnginesModel", name := "startText", desc := "(I)V" } : Jvm.MethodName) ∈ tb := tb_at 2642 (by decide +kernel) rfl
theorem q2644 : Cond.instanceMethod ({ cls := "PinEnginesModel", name := "startText", desc := "(I)V" } : Jvm.MethodName) ∈ tb := tb_at 2644 (by decide +kernel) rfl
theorem q2645 : Cond.code ({ cls := "PinEnginesModel", name := "startText", desc := "(I)V" } : Jvm.MethodName) prog_15_method_107_code (2 : Nat) (Option.none : Option Jvm.ClassFile.FieldType) ∈ tb := tb_at 2645 (by decide +kernel) rfl
theorem q2646 : Cond.methodLink "PinEnginesModel" (496 : Nat) ({ cls := "PinEnginesModel", name := "scan", desc := "()V" } : Jvm.MethodName) ∈ tb := tb_at 2646 (by decide +kernel) rfl
theorem q2648 : Cond.instanceMethod ({ cls := "PinEnginesModel", name := "scan", desc := "()V" } : Jvm.MethodName) ∈ tb := tb_at 2648 (by decide +kernel) rfl
theorem q2649 : Cond.code ({ cls := "PinEnginesModel", name := "scan", desc := "()V" } : Jvm.MethodName) prog_15_method_106_code (1 : Nat) (Option.none : Option Jvm.ClassFile.FieldType) ∈ tb := tb_at 2649 (by decide +kernel) rfl
theorem q2650 : Cond.methodLink "PinEnginesModel" (472 : Nat) ({ cls := "PinEnginesModel", name := "byteAt", desc := "(I)I" } : Jvm.MethodName) ∈ tb := tb_at 2650 (by decide +kernel) rfl
theorem q2652 : Cond.instanceMethod ({ cls := "PinEnginesModel", name := "byteAt", desc := "(I)I" } : Jvm.MethodName) ∈ tb := tb_at 2652 (by decide +kernel) rfl
theorem q2653 : Cond.code ({ cls := "PinEnginesModel", name := "byteAt", desc := "(I)I" } : Jvm.MethodName) prog_15_method_103_code (2 : Nat) (Option.some Jvm.ClassFile.FieldType.int) ∈ tb := tb_at 2653 (by decide +kernel) rfl
theorem q2654 : Cond.methodLink "PinEnginesModel" (484 : Nat) ({ cls := "PinEnginesModel", name := "isLetter", desc := "(I)Z" } : Jvm.MethodName) ∈ tb := tb_at 2654 (by decide +kernel) rfl
theorem q2656 : Cond.instanceMethod ({ cls := "PinEnginesModel", name := "isLetter", desc := "(I)Z" } : Jvm.MethodName) ∈ tb := tb_at 2656 (by decide +kernel) rfl
theorem q2657 : Cond.code ({ cls := "PinEnginesModel", name := "isLetter", desc := "(I)Z" } : Jvm.MethodName) prog_15_method_104_code (2 : Nat) (Option.some Jvm.ClassFile.FieldType.boolean) ∈ tb := tb_at 2657 (by decide +kernel) rfl
theorem q2658 : Cond.methodLink "PinEnginesModel" (487 : Nat) ({ cls := "PinEnginesModel", name := "isDigit", desc := "(I)Z" } : Jvm.MethodName) ∈ tb := tb_at 2658 (by decide +kernel) rfl
theorem q2660 : Cond.instanceMethod ({ cls := "PinEnginesModel", name := "isDigit", desc := "(I)Z" } : Jvm.MethodName) ∈ tb := tb_at 2660 (by decide +kernel) rfl
theorem q2661 : Cond.code ({ cls := "PinEnginesModel", name := "isDigit", desc := "(I)Z" } : Jvm.MethodName) prog_15_method_105_code (2 : Nat) (Option.some Jvm.ClassFile.FieldType.boolean) ∈ tb := tb_at 2661 (by decide +kernel) rfl
theorem q2662 : Cond.methodLink "PinEnginesModel" (621 : Nat) ({ cls := "PinEnginesModel", name := "readClause", desc := "()V" } : Jvm.MethodName) ∈ tb := tb_at 2662 (by decide +kernel) rfl
theorem q2664 : Cond.instanceMethod ({ cls := "PinEnginesModel", name := "readClause", desc := "()V" } : Jvm.MethodName) ∈ tb := tb_at 2664 (by decide +kernel) rfl
theorem q2665 : Cond.code ({ cls := "PinEnginesModel", name := "readClause", desc := "()V" } : Jvm.MethodName) prog_15_method_143_code (1 : Nat) (Option.none : Option Jvm.ClassFile.FieldType) ∈ tb := tb_at 2665 (by decide +kernel) rfl
theorem q2666 : Cond.methodLink "PinEnginesModel" (552 : Nat) ({ cls := "PinEnginesModel", name := "accept", desc := "(Ljava/lang/String;)Z" } : Jvm.MethodName) ∈ tb := tb_at 2666 (by decide +kernel) rfl
theorem q2668 : Cond.instanceMethod ({ cls := "PinEnginesModel", name := "accept", desc := "(Ljava/lang/String;)Z" } : Jvm.MethodName) ∈ tb := tb_at 2668 (by decide +kernel) rfl
theorem q2669 : Cond.code ({ cls := "PinEnginesModel", name := "accept", desc := "(Ljava/lang/String;)Z" } : Jvm.MethodName) prog_15_method_114_code (3 : Nat) (Option.some Jvm.ClassFile.FieldType.boolean) ∈ tb := tb_at 2669 (by decide +kernel) rfl
theorem q2670 : Cond.methodLink "PinEnginesModel" (512 : Nat) ({ cls := "PinEnginesModel", name := "isWord", desc := "(Ljava/lang/String;)Z" } : Jvm.MethodName) ∈ tb := tb_at 2670 (by decide +kernel) rfl
theorem q2672 : Cond.instanceMethod ({ cls := "PinEnginesModel", name := "isWord", desc := "(Ljava/lang/String;)Z" } : Jvm.MethodName) ∈ tb := tb_at 2672 (by decide +kernel) rfl
theorem q2673 : Cond.code ({ cls := "PinEnginesModel", name := "isWord", desc := "(Ljava/lang/String;)Z" } : Jvm.MethodName) prog_15_method_113_code (4 : Nat) (Option.some Jvm.ClassFile.FieldType.boolean) ∈ tb := tb_at 2673 (by decide +kernel) rfl
theorem q2674 : Cond.methodLink "PinEnginesModel" (505 : Nat) ({ cls := "java/lang/String", name := "length", desc := "()I" } : Jvm.MethodName) ∈ tb := tb_at 2674 (by decide +kernel) rfl
theorem q2675 : Cond.methodLink "PinEnginesModel" (508 : Nat) ({ cls := "java/lang/String", name := "charAt", desc := "(I)C" } : Jvm.MethodName) ∈ tb := tb_at 2675 (by decide +kernel) rfl
theorem q2676 : Cond.methodLink "PinEnginesModel" (609 : Nat) ({ cls := "PinEnginesModel", name := "readEngine", desc := "()V" } : Jvm.MethodName) ∈ tb := tb_at 2676 (by decide +kernel) rfl
theorem q2678 : Cond.instanceMethod ({ cls := "PinEnginesModel", name := "readEngine", desc := "()V" } : Jvm.MethodName) ∈ tb := tb_at 2678 (by decide +kernel) rfl
theorem q2679 : Cond.code ({ cls := "PinEnginesModel", name := "readEngine", desc := "()V" } : Jvm.MethodName) prog_15_method_132_code (2 : Nat) (Option.none : Option Jvm.ClassFile.FieldType) ∈ tb := tb_at 2679 (by decide +kernel) rfl
theorem q2680 : Cond.methodLink "PinEnginesModel" (516 : Nat) ({ cls := "PinEnginesModel", name := "check", desc := "(ZI)V" } : Jvm.MethodName) ∈ tb := tb_at 2680 (by decide +kernel) rfl
theorem q2682 : Cond.instanceMethod ({ cls := "PinEnginesModel", name := "check", desc := "(ZI)V" } : Jvm.MethodName) ∈ tb := tb_at 2682 (by decide +kernel) rfl
theorem q2683 : Cond.code ({ cls := "PinEnginesModel", name := "check", desc := "(ZI)V" } : Jvm.MethodName) prog_15_method_110_code (3 : Nat) (Option.none : Option Jvm.ClassFile.FieldType) ∈ tb := tb_at 2683 (by decide +kernel) rfl
theorem q2684 : Cond.methodLink "PinEnginesModel" (502 : Nat) ({ cls := "PinEnginesModel", name := "fail", desc := "(I)V" } : Jvm.MethodName) ∈ tb := tb_at 2684 (by decide +kernel) rfl
theorem q2686 : Cond.instanceMethod ({ cls := "PinEnginesModel", name := "fail", desc := "(I)V" } : Jvm.MethodName) ∈ tb := tb_at 2686 (by decide +kernel) rfl
theorem q2687 : Cond.code ({ cls := "PinEnginesModel", name := "fail", desc := "(I)V" } : Jvm.MethodName) prog_15_method_109_code (2 : Nat) (Option.none : Option Jvm.ClassFile.FieldType) ∈ tb := tb_at 2687 (by decide +kernel) rfl
theorem q2688 : Cond.methodLink "PinEnginesModel" (526 : Nat) ({ cls := "PinEnginesModel", name := "value", desc := "()I" } : Jvm.MethodName) ∈ tb := tb_at 2688 (by decide +kernel) rfl
theorem q2690 : Cond.instanceMethod ({ cls := "PinEnginesModel", name := "value", desc := "()I" } : Jvm.MethodName) ∈ tb := tb_at 2690 (by decide +kernel) rfl
theorem q2691 : Cond.code ({ cls := "PinEnginesModel", name := "value", desc := "()I" } : Jvm.MethodName) prog_15_method_117_code (3 : Nat) (Option.some Jvm.ClassFile.FieldType.int) ∈ tb := tb_at 2691 (by decide +kernel) rfl
theorem q2692 : Cond.methodLink "PinEnginesModel" (520 : Nat) ({ cls := "PinEnginesModel", name := "advance", desc := "()V" } : Jvm.MethodName) ∈ tb := tb_at 2692 (by decide +kernel) rfl
theorem q2694 : Cond.instanceMethod ({ cls := "PinEnginesModel", name := "advance", desc := "()V" } : Jvm.MethodName) ∈ tb := tb_at 2694 (by decide +kernel) rfl
theorem q2695 : Cond.code ({ cls := "PinEnginesModel", name := "advance", desc := "()V" } : Jvm.MethodName) prog_15_method_111_code (1 : Nat) (Option.none : Option Jvm.ClassFile.FieldType) ∈ tb := tb_at 2695 (by decide +kernel) rfl
theorem q2696 : Cond.methodLink "PinEnginesModel" (574 : Nat) ({ cls := "PinEnginesModel", name := "expectWord", desc := "(Ljava/lang/String;)V" } : Jvm.MethodName) ∈ tb := tb_at 2696 (by decide +kernel) rfl
theorem q2698 : Cond.instanceMethod ({ cls := "PinEnginesModel", name := "expectWord", desc := "(Ljava/lang/String;)V" } : Jvm.MethodName) ∈ tb := tb_at 2698 (by decide +kernel) rfl
theorem q2699 : Cond.code ({ cls := "PinEnginesModel", name := "expectWord", desc := "(Ljava/lang/String;)V" } : Jvm.MethodName) prog_15_method_115_code (2 : Nat) (Option.none : Option Jvm.ClassFile.FieldType) ∈ tb := tb_at 2699 (by decide +kernel) rfl
theorem q2700 : Cond.methodLink "PinEnginesModel" (558 : Nat) ({ cls := "PinEnginesModel", name := "readName", desc := "(I)V" } : Jvm.MethodName) ∈ tb := tb_at 2700 (by decide +kernel) rfl
theorem q2702 : Cond.instanceMethod ({ cls := "PinEnginesModel", name := "readName", desc := "(I)V" } : Jvm.MethodName) ∈ tb := tb_at 2702 (by decide +kernel) rfl
theorem q2703 : Cond.code ({ cls := "PinEnginesModel", name := "readName", desc := "(I)V" } : Jvm.MethodName) prog_15_method_123_code (2 : Nat) (Option.none : Option Jvm.ClassFile.FieldType) ∈ tb := tb_at 2703 (by decide +kernel) rfl
theorem q2704 : Cond.methodLink "PinEnginesModel" (536 : Nat) ({ cls := "PinEnginesModel", name := "isName", desc := "()Z" } : Jvm.MethodName) ∈ tb := tb_at 2704 (by decide +kernel) rfl
theorem q2706 : Cond.instanceMethod ({ cls := "PinEnginesModel", name := "isName", desc := "()Z" } : Jvm.MethodName) ∈ tb := tb_at 2706 (by decide +kernel) rfl
theorem q2707 : Cond.code ({ cls := "PinEnginesModel", name := "isName", desc := "()Z" } : Jvm.MethodName) prog_15_method_120_code (1 : Nat) (Option.some Jvm.ClassFile.FieldType.boolean) ∈ tb := tb_at 2707 (by decide +kernel) rfl
theorem q2708 : Cond.methodLink "PinEnginesModel" (529 : Nat) ({ cls := "PinEnginesModel", name := "indexIn", desc := "([Ljava/lang/String;)I" } : Jvm.MethodName) ∈ tb := tb_at 2708 (by decide +kernel) rfl
theorem q2710 : Cond.instanceMethod ({ cls := "PinEnginesModel", name := "indexIn", desc := "([Ljava/lang/String;)I" } : Jvm.MethodName) ∈ tb := tb_at 2710 (by decide +kernel) rfl
theorem q2711 : Cond.code ({ cls := "PinEnginesModel", name := "indexIn", desc := "([Ljava/lang/String;)I" } : Jvm.MethodName) prog_15_method_119_code (3 : Nat) (Option.some Jvm.ClassFile.FieldType.int) ∈ tb := tb_at 2711 (by decide +kernel) rfl
theorem q2712 : Cond.methodLink "PinEnginesModel" (578 : Nat) ({ cls := "PinEnginesModel", name := "readSetting", desc := "(I)Z" } : Jvm.MethodName) ∈ tb := tb_at 2712 (by decide +kernel) rfl
theorem q2714 : Cond.instanceMethod ({ cls := "PinEnginesModel", name := "readSetting", desc := "(I)Z" } : Jvm.MethodName) ∈ tb := tb_at 2714 (by decide +kernel) rfl
theorem q2715 : Cond.code ({ cls := "PinEnginesModel", name := "readSetting", desc := "(I)Z" } : Jvm.MethodName) prog_15_method_131_code (2 : Nat) (Option.some Jvm.ClassFile.FieldType.boolean) ∈ tb := tb_at 2715 (by decide +kernel) rfl
theorem q2716 : Cond.methodLink "PinEnginesModel" (555 : Nat) ({ cls := "PinEnginesModel", name := "readClock", desc := "(I)V" } : Jvm.MethodName) ∈ tb := tb_at 2716 (by decide +kernel) rfl
theorem q2718 : Cond.instanceMethod ({ cls := "PinEnginesModel", name := "readClock", desc := "(I)V" } : Jvm.MethodName) ∈ tb := tb_at 2718 (by decide +kernel) rfl
theorem q2719 : Cond.code ({ cls := "PinEnginesModel", name := "readClock", desc := "(I)V" } : Jvm.MethodName) prog_15_method_129_code (4 : Nat) (Option.none : Option Jvm.ClassFile.FieldType) ∈ tb := tb_at 2719 (by decide +kernel) rfl
theorem q2720 : Cond.methodLink "PinEnginesModel" (546 : Nat) ({ cls := "PinEnginesModel", name := "number", desc := "(II)I" } : Jvm.MethodName) ∈ tb := tb_at 2720 (by decide +kernel) rfl
theorem q2722 : Cond.instanceMethod ({ cls := "PinEnginesModel", name := "number", desc := "(II)I" } : Jvm.MethodName) ∈ tb := tb_at 2722 (by decide +kernel) rfl
theorem q2723 : Cond.code ({ cls := "PinEnginesModel", name := "number", desc := "(II)I" } : Jvm.MethodName) prog_15_method_118_code (4 : Nat) (Option.some Jvm.ClassFile.FieldType.int) ∈ tb := tb_at 2723 (by decide +kernel) rfl
theorem q2724 : Cond.methodLink "PinEnginesModel" (561 : Nat) ({ cls := "PinEnginesModel", name := "readGroup", desc := "(II)V" } : Jvm.MethodName) ∈ tb := tb_at 2724 (by decide +kernel) rfl
theorem q2726 : Cond.instanceMethod ({ cls := "PinEnginesModel", name := "readGroup", desc := "(II)V" } : Jvm.MethodName) ∈ tb := tb_at 2726 (by decide +kernel) rfl
theorem q2727 : Cond.code ({ cls := "PinEnginesModel", name := "readGroup", desc := "(II)V" } : Jvm.MethodName) prog_15_method_126_code (3 : Nat) (Option.none : Option Jvm.ClassFile.FieldType) ∈ tb := tb_at 2727 (by decide +kernel) rfl
theorem q2728 : Cond.methodLink "PinEnginesModel" (549 : Nat) ({ cls := "PinEnginesModel", name := "putNumber", desc := "(III)V" } : Jvm.MethodName) ∈ tb := tb_at 2728 (by decide +kernel) rfl
theorem q2730 : Cond.instanceMethod ({ cls := "PinEnginesModel", name := "putNumber", desc := "(III)V" } : Jvm.MethodName) ∈ tb := tb_at 2730 (by decide +kernel) rfl
theorem q2731 : Cond.code ({ cls := "PinEnginesModel", name := "putNumber", desc := "(III)V" } : Jvm.MethodName) prog_15_method_125_code (5 : Nat) (Option.none : Option Jvm.ClassFile.FieldType) ∈ tb := tb_at 2731 (by decide +kernel) rfl
theorem q2732 : Cond.methodLink "PinEnginesModel" (564 : Nat) ({ cls := "PinEnginesModel", name := "readLimit", desc := "(I)V" } : Jvm.MethodName) ∈ tb := tb_at 2732 (by decide +kernel) rfl
theorem q2734 : Cond.instanceMethod ({ cls := "PinEnginesModel", name := "readLimit", desc := "(I)V" } : Jvm.MethodName) ∈ tb := tb_at 2734 (by decide +kernel) rfl
theorem q2735 : Cond.code ({ cls := "PinEnginesModel", name := "readLimit", desc := "(I)V" } : Jvm.MethodName) prog_15_method_127_code (2 : Nat) (Option.none : Option Jvm.ClassFile.FieldType) ∈ tb := tb_at 2735 (by decide +kernel) rfl
theorem q2736 : Cond.methodLink "PinEnginesModel" (567 : Nat) ({ cls := "PinEnginesModel", name := "join", desc := "(II)V" } : Jvm.MethodName) ∈ tb := tb_at 2736 (by decide +kernel) rfl
theorem q2738 : Cond.instanceMethod ({ cls := "PinEnginesModel", name := "join", desc := "(II)V" } : Jvm.MethodName) ∈ tb := tb_at 2738 (by decide +kernel) rfl
theorem q2739 : Cond.code ({ cls := "PinEnginesModel", name := "join", desc := "(II)V" } : Jvm.MethodName) prog_15_method_128_code (3 : Nat) (Option.none : Option Jvm.ClassFile.FieldType) ∈ tb := tb_at 2739 (by decide +kernel) rfl
theorem q2740 : Cond.methodLink "PinEnginesModel" (570 : Nat) ({ cls := "PinEnginesModel", name := "readFlag", desc := "(ILjava/lang/String;)Z" } : Jvm.MethodName) ∈ tb := tb_at 2740 (by decide +kernel) rfl
theorem q2742 : Cond.instanceMethod ({ cls := "PinEnginesModel", name := "readFlag", desc := "(ILjava/lang/String;)Z" } : Jvm.MethodName) ∈ tb := tb_at 2742 (by decide +kernel) rfl
theorem q2743 : Cond.code ({ cls := "PinEnginesModel", name := "readFlag", desc := "(ILjava/lang/String;)Z" } : Jvm.MethodName) prog_15_method_130_code (4 : Nat) (Option.some Jvm.ClassFile.FieldType.boolean) ∈ tb := tb_at 2743 (by decide +kernel) rfl
theorem q2744 : Cond.methodLink "PinEnginesModel" (612 : Nat) ({ cls := "PinEnginesModel", name := "readLevel", desc := "()V" } : Jvm.MethodName) ∈ tb := tb_at 2744 (by decide +kernel) rfl
theorem q2746 : Cond.instanceMethod ({ cls := "PinEnginesModel", name := "readLevel", desc := "()V" } : Jvm.MethodName) ∈ tb := tb_at 2746 (by decide +kernel) rfl
theorem q2747 : Cond.code ({ cls := "PinEnginesModel", name := "readLevel", desc := "()V" } : Jvm.MethodName) prog_15_method_133_code (2 : Nat) (Option.none : Option Jvm.ClassFile.FieldType) ∈ tb := tb_at 2747 (by decide +kernel) rfl
theorem q2748 : Cond.methodLink "PinEnginesModel" (615 : Nat) ({ cls := "PinEnginesModel", name := "readInstruction", desc := "()V" } : Jvm.MethodName) ∈ tb := tb_at 2748 (by decide +kernel) rfl
theorem q2750 : Cond.instanceMethod ({ cls := "PinEnginesModel", name := "readInstruction", desc := "()V" } : Jvm.MethodName) ∈ tb := tb_at 2750 (by decide +kernel) rfl
theorem q2751 : Cond.code ({ cls := "PinEnginesModel", name := "readInstruction", desc := "()V" } : Jvm.MethodName) prog_15_method_142_code (3 : Nat) (Option.none : Option Jvm.ClassFile.FieldType) ∈ tb := tb_at 2751 (by decide +kernel) rfl
theorem q2752 : Cond.methodLink "PinEnginesModel" (603 : Nat) ({ cls := "PinEnginesModel", name := "readLabel", desc := "()V" } : Jvm.MethodName) ∈ tb := tb_at 2752 (by decide +kernel) rfl
theorem q2754 : Cond.instanceMethod ({ cls := "PinEnginesModel", name := "readLabel", desc := "()V" } : Jvm.MethodName) ∈ tb := tb_at 2754 (by decide +kernel) rfl
theorem q2755 : Cond.code ({ cls := "PinEnginesModel", name := "readLabel", desc := "()V" } : Jvm.MethodName) prog_15_method_141_code (4 : Nat) (Option.none : Option Jvm.ClassFile.FieldType) ∈ tb := tb_at 2755 (by decide +kernel) rfl
theorem q2756 : Cond.methodLink "PinEnginesModel" (543 : Nat) ({ cls := "PinEnginesModel", name := "labelled", desc := "(III)I" } : Jvm.MethodName) ∈ tb := tb_at 2756 (by decide +kernel) rfl
theorem q2758 : Cond.instanceMethod ({ cls := "PinEnginesModel", name := "labelled", desc := "(III)I" } : Jvm.MethodName) ∈ tb := tb_at 2758 (by decide +kernel) rfl
theorem q2759 : Cond.code ({ cls := "PinEnginesModel", name := "labelled", desc := "(III)I" } : Jvm.MethodName) prog_15_method_122_code (5 : Nat) (Option.some Jvm.ClassFile.FieldType.int) ∈ tb := tb_at 2759 (by decide +kernel) rfl
theorem q2760 : Cond.methodLink "PinEnginesModel" (533 : Nat) ({ cls := "PinEnginesModel", name := "isSame", desc := "(III)Z" } : Jvm.MethodName) ∈ tb := tb_at 2760 (by decide +kernel) rfl
theorem q2762 : Cond.instanceMethod ({ cls := "PinEnginesModel", name := "isSame", desc := "(III)Z" } : Jvm.MethodName) ∈ tb := tb_at 2762 (by decide +kernel) rfl
theorem q2763 : Cond.code ({ cls := "PinEnginesModel", name := "isSame", desc := "(III)Z" } : Jvm.MethodName) prog_15_method_121_code (5 : Nat) (Option.some Jvm.ClassFile.FieldType.boolean) ∈ tb := tb_at 2763 (by decide +kernel) rfl
theorem q2764 : Cond.methodLink "PinEnginesModel" (600 : Nat) ({ cls := "PinEnginesModel", name := "expect", desc := "(I)V" } : Jvm.MethodName) ∈ tb := tb_at 2764 (by decide +kernel) rfl
theorem q2766 : Cond.instanceMethod ({ cls := "PinEnginesModel", name := "expect", desc := "(I)V" } : Jvm.MethodName) ∈ tb := tb_at 2766 (by decide +kernel) rfl
theorem q2767 : Cond.code ({ cls := "PinEnginesModel", name := "expect", desc := "(I)V" } : Jvm.MethodName) prog_15_method_116_code (2 : Nat) (Option.none : Option Jvm.ClassFile.FieldType) ∈ tb := tb_at 2767 (by decide +kernel) rfl
theorem q2768 : Cond.methodLink "PinEnginesModel" (523 : Nat) ({ cls := "PinEnginesModel", name := "isSymbol", desc := "(I)Z" } : Jvm.MethodName) ∈ tb := tb_at 2768 (by decide +kernel) rfl
theorem q2770 : Cond.instanceMethod ({ cls := "PinEnginesModel", name := "isSymbol", desc := "(I)Z" } : Jvm.MethodName) ∈ tb := tb_at 2770 (by decide +kernel) rfl
theorem q2771 : Cond.code ({ cls := "PinEnginesModel", name := "isSymbol", desc := "(I)Z" } : Jvm.MethodName) prog_15_method_112_code (2 : Nat) (Option.some Jvm.ClassFile.FieldType.boolean) ∈ tb := tb_at 2771 (by decide +kernel) rfl
theorem q2772 : Cond.methodLink "PinEnginesModel" (606 : Nat) ({ cls := "PinEnginesModel", name := "readOperands", desc := "(II)V" } : Jvm.MethodName) ∈ tb := tb_at 2772 (by decide +kernel) rfl
theorem q2774 : Cond.instanceMethod ({ cls := "PinEnginesModel", name := "readOperands", desc := "(II)V" } : Jvm.MethodName) ∈ tb := tb_at 2774 (by decide +kernel) rfl
theorem q2775 : Cond.code ({ cls := "PinEnginesModel", name := "readOperands", desc := "(II)V" } : Jvm.MethodName) prog_15_method_140_code (3 : Nat) (Option.none : Option Jvm.ClassFile.FieldType) ∈ tb := tb_at 2775 (by decide +kernel) rfl
theorem q2776 : Cond.methodLink "PinEnginesModel" (584 : Nat) ({ cls := "PinEnginesModel", name := "readJump", desc := "(I)V" } : Jvm.MethodName) ∈ tb := tb_at 2776 (by decide +kernel) rfl
theorem q2778 : Cond.instanceMethod ({ cls := "PinEnginesModel", name := "readJump", desc := "(I)V" } : Jvm.MethodName) ∈ tb := tb_at 2778 (by decide +kernel) rfl
theorem q2779 : Cond.code ({ cls := "PinEnginesModel", name := "readJump", desc := "(I)V" } : Jvm.MethodName) prog_15_method_135_code (3 : Nat) (Option.none : Option Jvm.ClassFile.FieldType) ∈ tb := tb_at 2779 (by decide +kernel) rfl
theorem q2780 : Cond.methodLink "PinEnginesModel" (587 : Nat) ({ cls := "PinEnginesModel", name := "readWait", desc := "(I)V" } : Jvm.MethodName) ∈ tb := tb_at 2780 (by decide +kernel) rfl
theorem q2782 : Cond.instanceMethod ({ cls := "PinEnginesModel", name := "readWait", desc := "(I)V" } : Jvm.MethodName) ∈ tb := tb_at 2782 (by decide +kernel) rfl
theorem q2783 : Cond.code ({ cls := "PinEnginesModel", name := "readWait", desc := "(I)V" } : Jvm.MethodName) prog_15_method_136_code (3 : Nat) (Option.none : Option Jvm.ClassFile.FieldType) ∈ tb := tb_at 2783 (by decide +kernel) rfl
theorem q2784 : Cond.methodLink "PinEnginesModel" (581 : Nat) ({ cls := "PinEnginesModel", name := "readPlace", desc := "(II)V" } : Jvm.MethodName) ∈ tb := tb_at 2784 (by decide +kernel) rfl
theorem q2786 : Cond.instanceMethod ({ cls := "PinEnginesModel", name := "readPlace", desc := "(II)V" } : Jvm.MethodName) ∈ tb := tb_at 2786 (by decide +kernel) rfl
theorem q2787 : Cond.code ({ cls := "PinEnginesModel", name := "readPlace", desc := "(II)V" } : Jvm.MethodName) prog_15_method_134_code (4 : Nat) (Option.none : Option Jvm.ClassFile.FieldType) ∈ tb := tb_at 2787 (by decide +kernel) rfl
theorem q2788 : Cond.methodLink "PinEnginesModel" (590 : Nat) ({ cls := "PinEnginesModel", name := "readQueueing", desc := "(ILjava/lang/String;)V" } : Jvm.MethodName) ∈ tb := tb_at 2788 (by decide +kernel) rfl
theorem q2790 : Cond.instanceMethod ({ cls := "PinEnginesModel", name := "readQueueing", desc := "(ILjava/lang/String;)V" } : Jvm.MethodName) ∈ tb := tb_at 2790 (by decide +kernel) rfl
theorem q2791 : Cond.code ({ cls := "PinEnginesModel", name := "readQueueing", desc := "(ILjava/lang/String;)V" } : Jvm.MethodName) prog_15_method_139_code (3 : Nat) (Option.none : Option Jvm.ClassFile.FieldType) ∈ tb := tb_at 2791 (by decide +kernel) rfl
theorem q2792 : Cond.methodLink "PinEnginesModel" (594 : Nat) ({ cls := "PinEnginesModel", name := "readMove", desc := "(I)V" } : Jvm.MethodName) ∈ tb := tb_at 2792 (by decide +kernel) rfl
theorem q2794 : Cond.instanceMethod ({ cls := "PinEnginesModel", name := "readMove", desc := "(I)V" } : Jvm.MethodName) ∈ tb := tb_at 2794 (by decide +kernel) rfl
theorem q2795 : Cond.code ({ cls := "PinEnginesModel", name := "readMove", desc := "(I)V" } : Jvm.MethodName) prog_15_method_137_code (2 : Nat) (Option.none : Option Jvm.ClassFile.FieldType) ∈ tb := tb_at 2795 (by decide +kernel) rfl
theorem q2796 : Cond.methodLink "PinEnginesModel" (597 : Nat) ({ cls := "PinEnginesModel", name := "readAccess", desc := "(II)V" } : Jvm.MethodName) ∈ tb := tb_at 2796 (by decide +kernel) rfl
theorem q2798 : Cond.instanceMethod ({ cls := "PinEnginesModel", name := "readAccess", desc := "(II)V" } : Jvm.MethodName) ∈ tb := tb_at 2798 (by decide +kernel) rfl
theorem q2799 : Cond.code ({ cls := "PinEnginesModel", name := "readAccess", desc := "(II)V" } : Jvm.MethodName) prog_15_method_138_code (3 : Nat) (Option.none : Option Jvm.ClassFile.FieldType) ∈ tb := tb_at 2799 (by decide +kernel) rfl
theorem q2800 : Cond.methodLink "PinEnginesModel" (624 : Nat) ({ cls := "PinEnginesModel", name := "layNames", desc := "()V" } : Jvm.MethodName) ∈ tb := tb_at 2800 (by decide +kernel) rfl
theorem q2802 : Cond.instanceMethod ({ cls := "PinEnginesModel", name := "layNames", desc := "()V" } : Jvm.MethodName) ∈ tb := tb_at 2802 (by decide +kernel) rfl
theorem q2803 : Cond.code ({ cls := "PinEnginesModel", name := "layNames", desc := "()V" } : Jvm.MethodName) prog_15_method_124_code (3 : Nat) (Option.none : Option Jvm.ClassFile.FieldType) ∈ tb := tb_at 2803 (by decide +kernel) rfl
theorem q2804 : Cond.methodLink "PinEnginesModel" (627 : Nat) ({ cls := "PinEnginesModel", name := "finish", desc := "()I" } : Jvm.MethodName) ∈ tb := tb_at 2804 (by decide +kernel) rfl
theorem q2806 : Cond.instanceMethod ({ cls := "PinEnginesModel", name := "finish", desc := "()I" } : Jvm.MethodName) ∈ tb := tb_at 2806 (by decide +kernel) rfl
theorem q2807 : Cond.code ({ cls := "PinEnginesModel", name := "finish", desc := "()I" } : Jvm.MethodName) prog_15_method_108_code (1 : Nat) (Option.some Jvm.ClassFile.FieldType.int) ∈ tb := tb_at 2807 (by decide +kernel) rfl
theorem q2808 : Cond.methodLink "PinEnginesLaw" (261 : Nat) ({ cls := "PinEnginesModel", name := "format", desc := "(I)I" } : Jvm.MethodName) ∈ tb := tb_at 2808 (by decide +kernel) rfl
theorem q2809 : Cond.instanceMethod ({ cls := "PinEnginesModel", name := "format", desc := "(I)I" } : Jvm.MethodName) ∈ tb := tb_at 2809 (by decide +kernel) rfl
theorem q2810 : Cond.selects "PinEnginesModel" ({ cls := "PinEnginesModel", name := "format", desc := "(I)I" } : Jvm.MethodName) ({ cls := "PinEnginesModel", name := "format", desc := "(I)I" } : Jvm.MethodName) ∈ tb := tb_at 2810 (by decide +kernel) rfl
theorem q2811 : Cond.code ({ cls := "PinEnginesModel", name := "format", desc := "(I)I" } : Jvm.MethodName) prog_15_method_151_code (3 : Nat) (Option.some Jvm.ClassFile.FieldType.int) ∈ tb := tb_at 2811 (by decide +kernel) rfl
theorem q2812 : Cond.methodLink "PinEnginesModel" (636 : Nat) ({ cls := "PinEnginesModel", name := "write", desc := "(Ljava/lang/String;)V" } : Jvm.MethodName) ∈ tb := tb_at 2812 (by decide +kernel) rfl
theorem q2814 : Cond.instanceMethod ({ cls := "PinEnginesModel", name := "write", desc := "(Ljava/lang/String;)V" } : Jvm.MethodName) ∈ tb := tb_at 2814 (by decide +kernel) rfl
theorem q2815 : Cond.code ({ cls := "PinEnginesModel", name := "write", desc := "(Ljava/lang/String;)V" } : Jvm.MethodName) prog_15_method_145_code (3 : Nat) (Option.none : Option Jvm.ClassFile.FieldType) ∈ tb := tb_at 2815 (by decide +kernel) rfl
theorem q2816 : Cond.methodLink "PinEnginesModel" (648 : Nat) ({ cls := "PinEnginesModel", name := "writeOperands", desc := "(II)V" } : Jvm.MethodName) ∈ tb := tb_at 2816 (by decide +kernel) rfl
theorem q2818 : Cond.instanceMethod ({ cls := "PinEnginesModel", name := "writeOperands", desc := "(II)V" } : Jvm.MethodName) ∈ tb := tb_at 2818 (by decide +kernel) rfl
theorem q2819 : Cond.code ({ cls := "PinEnginesModel", name := "writeOperands", desc := "(II)V" } : Jvm.MethodName) prog_15_method_150_code (5 : Nat) (Option.none : Option Jvm.ClassFile.FieldType) ∈ tb := tb_at 2819 (by decide +kernel) rfl
theorem q2820 : Cond.methodLink "PinEnginesModel" (641 : Nat) ({ cls := "PinEnginesModel", name := "writeIf", desc := "(ZLjava/lang/String;)V" } : Jvm.MethodName) ∈ tb := tb_at 2820 (by decide +kernel) rfl
theorem q2822 : Cond.instanceMethod ({ cls := "PinEnginesModel", name := "writeIf", desc := "(ZLjava/lang/String;)V" } : Jvm.MethodName) ∈ tb := tb_at 2822 (by decide +kernel) rfl
theorem q2823 : Cond.code ({ cls := "PinEnginesModel", name := "writeIf", desc := "(ZLjava/lang/String;)V" } : Jvm.MethodName) prog_15_method_148_code (3 : Nat) (Option.none : Option Jvm.ClassFile.FieldType) ∈ tb := tb_at 2823 (by decide +kernel) rfl
theorem q2824 : Cond.methodLink "PinEnginesModel" (638 : Nat) ({ cls := "PinEnginesModel", name := "writeNumber", desc := "(I)V" } : Jvm.MethodName) ∈ tb := tb_at 2824 (by decide +kernel) rfl
theorem q2826 : Cond.instanceMethod ({ cls := "PinEnginesModel", name := "writeNumber", desc := "(I)V" } : Jvm.MethodName) ∈ tb := tb_at 2826 (by decide +kernel) rfl
theorem q2827 : Cond.code ({ cls := "PinEnginesModel", name := "writeNumber", desc := "(I)V" } : Jvm.MethodName) prog_15_method_147_code (2 : Nat) (Option.none : Option Jvm.ClassFile.FieldType) ∈ tb := tb_at 2827 (by decide +kernel) rfl
theorem q2828 : Cond.methodLink "PinEnginesModel" (633 : Nat) ({ cls := "PinEnginesModel", name := "digits", desc := "(I)V" } : Jvm.MethodName) ∈ tb := tb_at 2828 (by decide +kernel) rfl
theorem q2830 : Cond.instanceMethod ({ cls := "PinEnginesModel", name := "digits", desc := "(I)V" } : Jvm.MethodName) ∈ tb := tb_at 2830 (by decide +kernel) rfl
theorem q2831 : Cond.code ({ cls := "PinEnginesModel", name := "digits", desc := "(I)V" } : Jvm.MethodName) prog_15_method_146_code (2 : Nat) (Option.none : Option Jvm.ClassFile.FieldType) ∈ tb := tb_at 2831 (by decide +kernel) rfl
theorem q2832 : Cond.methodLink "PinEnginesModel" (645 : Nat) ({ cls := "PinEnginesModel", name := "writeAccess", desc := "(I)V" } : Jvm.MethodName) ∈ tb := tb_at 2832 (by decide +kernel) rfl
theorem q2834 : Cond.instanceMethod ({ cls := "PinEnginesModel", name := "writeAccess", desc := "(I)V" } : Jvm.MethodName) ∈ tb := tb_at 2834 (by decide +kernel) rfl
theorem q2835 : Cond.code ({ cls := "PinEnginesModel", name := "writeAccess", desc := "(I)V" } : Jvm.MethodName) prog_15_method_149_code (3 : Nat) (Option.none : Option Jvm.ClassFile.FieldType) ∈ tb := tb_at 2835 (by decide +kernel) rfl
theorem q2836 : Cond.methodLink "PinEnginesLaw" (265 : Nat) ({ cls := "PinEnginesModel", name := "formattedByte", desc := "(I)I" } : Jvm.MethodName) ∈ tb := tb_at 2836 (by decide +kernel) rfl
theorem q2837 : Cond.instanceMethod ({ cls := "PinEnginesModel", name := "formattedByte", desc := "(I)I" } : Jvm.MethodName) ∈ tb := tb_at 2837 (by decide +kernel) rfl
theorem q2838 : Cond.selects "PinEnginesModel" ({ cls := "PinEnginesModel", name := "formattedByte", desc := "(I)I" } : Jvm.MethodName) ({ cls := "PinEnginesModel", name := "formattedByte", desc := "(I)I" } : Jvm.MethodName) ∈ tb := tb_at 2838 (by decide +kernel) rfl
theorem q2839 : Cond.code ({ cls := "PinEnginesModel", name := "formattedByte", desc := "(I)I" } : Jvm.MethodName) prog_15_method_152_code (2 : Nat) (Option.some Jvm.ClassFile.FieldType.int) ∈ tb := tb_at 2839 (by decide +kernel) rfl
theorem q2840 : Cond.methodLink "PinEnginesLaw" (285 : Nat) ({ cls := "PinEnginesModel", name := "query", desc := "(I)I" } : Jvm.MethodName) ∈ tb := tb_at 2840 (by decide +kernel) rfl
theorem q2841 : Cond.instanceMethod ({ cls := "PinEnginesModel", name := "query", desc := "(I)I" } : Jvm.MethodName) ∈ tb := tb_at 2841 (by decide +kernel) rfl
theorem q2842 : Cond.selects "PinEnginesModel" ({ cls := "PinEnginesModel", name := "query", desc := "(I)I" } : Jvm.MethodName) ({ cls := "PinEnginesModel", name := "query", desc := "(I)I" } : Jvm.MethodName) ∈ tb := tb_at 2842 (by decide +kernel) rfl
theorem q2843 : Cond.code ({ cls := "PinEnginesModel", name := "query", desc := "(I)I" } : Jvm.MethodName) prog_15_method_162_code (5 : Nat) (Option.some Jvm.ClassFile.FieldType.int) ∈ tb := tb_at 2843 (by decide +kernel) rfl
theorem q2844 : Cond.methodLink "PinEnginesModel" (664 : Nat) ({ cls := "PinEnginesModel", name := "compileTest", desc := "()V" } : Jvm.MethodName) ∈ tb := tb_at 2844 (by decide +kernel) rfl
theorem q2846 : Cond.instanceMethod ({ cls := "PinEnginesModel", name := "compileTest", desc := "()V" } : Jvm.MethodName) ∈ tb := tb_at 2846 (by decide +kernel) rfl
theorem q2847 : Cond.code ({ cls := "PinEnginesModel", name := "compileTest", desc := "()V" } : Jvm.MethodName) prog_15_method_158_code (1 : Nat) (Option.none : Option Jvm.ClassFile.FieldType) ∈ tb := tb_at 2847 (by decide +kernel) rfl
theorem q2848 : Cond.methodLink "PinEnginesModel" (670 : Nat) ({ cls := "PinEnginesModel", name := "compileConjunction", desc := "()V" } : Jvm.MethodName) ∈ tb := tb_at 2848 (by decide +kernel) rfl
theorem q2850 : Cond.instanceMethod ({ cls := "PinEnginesModel", name := "compileConjunction", desc := "()V" } : Jvm.MethodName) ∈ tb := tb_at 2850 (by decide +kernel) rfl
theorem q2851 : Cond.code ({ cls := "PinEnginesModel", name := "compileConjunction", desc := "()V" } : Jvm.MethodName) prog_15_method_157_code (1 : Nat) (Option.none : Option Jvm.ClassFile.FieldType) ∈ tb := tb_at 2851 (by decide +kernel) rfl
theorem q2852 : Cond.methodLink "PinEnginesModel" (661 : Nat) ({ cls := "PinEnginesModel", name := "compileFactor", desc := "()V" } : Jvm.MethodName) ∈ tb := tb_at 2852 (by decide +kernel) rfl
theorem q2854 : Cond.instanceMethod ({ cls := "PinEnginesModel", name := "compileFactor", desc := "()V" } : Jvm.MethodName) ∈ tb := tb_at 2854 (by decide +kernel) rfl
theorem q2855 : Cond.code ({ cls := "PinEnginesModel", name := "compileFactor", desc := "()V" } : Jvm.MethodName) prog_15_method_156_code (2 : Nat) (Option.none : Option Jvm.ClassFile.FieldType) ∈ tb := tb_at 2855 (by decide +kernel) rfl
theorem q2856 : Cond.methodLink "PinEnginesModel" (658 : Nat) ({ cls := "PinEnginesModel", name := "enter", desc := "()V" } : Jvm.MethodName) ∈ tb := tb_at 2856 (by decide +kernel) rfl
theorem q2858 : Cond.instanceMethod ({ cls := "PinEnginesModel", name := "enter", desc := "()V" } : Jvm.MethodName) ∈ tb := tb_at 2858 (by decide +kernel) rfl
theorem q2859 : Cond.code ({ cls := "PinEnginesModel", name := "enter", desc := "()V" } : Jvm.MethodName) prog_15_method_154_code (1 : Nat) (Option.none : Option Jvm.ClassFile.FieldType) ∈ tb := tb_at 2859 (by decide +kernel) rfl
theorem q2860 : Cond.methodLink "PinEnginesModel" (655 : Nat) ({ cls := "PinEnginesModel", name := "emit", desc := "(I)V" } : Jvm.MethodName) ∈ tb := tb_at 2860 (by decide +kernel) rfl
theorem q2862 : Cond.instanceMethod ({ cls := "PinEnginesModel", name := "emit", desc := "(I)V" } : Jvm.MethodName) ∈ tb := tb_at 2862 (by decide +kernel) rfl
theorem q2863 : Cond.code ({ cls := "PinEnginesModel", name := "emit", desc := "(I)V" } : Jvm.MethodName) prog_15_method_153_code (2 : Nat) (Option.none : Option Jvm.ClassFile.FieldType) ∈ tb := tb_at 2863 (by decide +kernel) rfl
theorem q2864 : Cond.methodLink "PinEnginesModel" (667 : Nat) ({ cls := "PinEnginesModel", name := "compileValue", desc := "()V" } : Jvm.MethodName) ∈ tb := tb_at 2864 (by decide +kernel) rfl
theorem q2866 : Cond.instanceMethod ({ cls := "PinEnginesModel", name := "compileValue", desc := "()V" } : Jvm.MethodName) ∈ tb := tb_at 2866 (by decide +kernel) rfl
theorem q2867 : Cond.code ({ cls := "PinEnginesModel", name := "compileValue", desc := "()V" } : Jvm.MethodName) prog_15_method_155_code (2 : Nat) (Option.none : Option Jvm.ClassFile.FieldType) ∈ tb := tb_at 2867 (by decide +kernel) rfl
theorem q2868 : Cond.constant "PinEnginesModel" (654 : Nat) (99999 : Int32) ∈ tb := tb_at 2868 (by decide +kernel) rfl
theorem q2869 : Cond.constant "PinEnginesModel" (679 : Nat) (-1000000000 : Int32) ∈ tb := tb_at 2869 (by decide +kernel) rfl
theorem q2870 : Cond.methodLink "PinEnginesModel" (680 : Nat) ({ cls := "PinEnginesModel", name := "holdsFor", desc := "(I)Z" } : Jvm.MethodName) ∈ tb := tb_at 2870 (by decide +kernel) rfl
theorem q2872 : Cond.instanceMethod ({ cls := "PinEnginesModel", name := "holdsFor", desc := "(I)Z" } : Jvm.MethodName) ∈ tb := tb_at 2872 (by decide +kernel) rfl
theorem q2873 : Cond.code ({ cls := "PinEnginesModel", name := "holdsFor", desc := "(I)Z" } : Jvm.MethodName) prog_15_method_161_code (5 : Nat) (Option.some Jvm.ClassFile.FieldType.boolean) ∈ tb := tb_at 2873 (by decide +kernel) rfl
theorem q2874 : Cond.methodLink "PinEnginesModel" (673 : Nat) ({ cls := "PinEnginesModel", name := "property", desc := "(II)I" } : Jvm.MethodName) ∈ tb := tb_at 2874 (by decide +kernel) rfl
theorem q2876 : Cond.instanceMethod ({ cls := "PinEnginesModel", name := "property", desc := "(II)I" } : Jvm.MethodName) ∈ tb := tb_at 2876 (by decide +kernel) rfl
theorem q2877 : Cond.code ({ cls := "PinEnginesModel", name := "property", desc := "(II)I" } : Jvm.MethodName) prog_15_method_160_code (3 : Nat) (Option.some Jvm.ClassFile.FieldType.int) ∈ tb := tb_at 2877 (by decide +kernel) rfl
theorem q2878 : Cond.methodLink "PinEnginesModel" (676 : Nat) ({ cls := "PinEnginesModel", name := "operate", desc := "(III)I" } : Jvm.MethodName) ∈ tb := tb_at 2878 (by decide +kernel) rfl
theorem q2879 : Cond.static ({ cls := "PinEnginesModel", name := "operate", desc := "(III)I" } : Jvm.MethodName) ∈ tb := tb_at 2879 (by decide +kernel) rfl
theorem q2880 : Cond.code ({ cls := "PinEnginesModel", name := "operate", desc := "(III)I" } : Jvm.MethodName) prog_15_method_159_code (3 : Nat) (Option.some Jvm.ClassFile.FieldType.int) ∈ tb := tb_at 2880 (by decide +kernel) rfl
theorem q2881 : Cond.arrayClass Jvm.ClassFile.FieldType.long ∈ tb := tb_at 2881 (by decide +kernel) rfl
theorem q2894 : Cond.selects "java/lang/StringBuilder" ({ cls := "java/lang/AbstractStringBuilder", name := "length", desc := "()I" } : Jvm.MethodName) ({ cls := "java/lang/StringBuilder", name := "length", desc := "()I" } : Jvm.MethodName) ∈ tb := tb_at 2894 (by decide +kernel) rfl
theorem q2914 : Cond.fieldLink "PinEngines$Symbol" (247 : Nat) "PinEngines$Symbol" "text" "Ljava/lang/String;" ∈ tb := tb_at 2914 (by decide +kernel) rfl
theorem q2915 : Cond.fieldLink "PinEngines$Tokens" (60 : Nat) "PinEngines$Symbol" "roles" "I" ∈ tb := tb_at 2915 (by decide +kernel) rfl
theorem q2916 : Cond.fieldLink "java/lang/Enum" (7 : Nat) "java/lang/Enum" "ordinal" "I" ∈ tb := tb_at 2916 (by decide +kernel) rfl
theorem q2917 : Cond.fieldLink "PinEngines$Instruction" (48 : Nat) "PinEngines$Symbol" "text" "Ljava/lang/String;" ∈ tb := tb_at 2917 (by decide +kernel) rfl
theorem q2918 : Cond.stringRef "PinEngines$Symbol" (273 : Nat) "" ∈ tb := tb_at 2918 (by decide +kernel) rfl
theorem q2961 : Cond.stringRef "PinEngines$Symbol" (305 : Nat) "engine" ∈ tb := tb_at 2961 (by decide +kernel) rfl
theorem q2962 : Cond.stringRef "PinEngines$Symbol" (308 : Nat) "start" ∈ tb := tb_at 2962 (by decide +kernel) rfl
theorem q2963 : Cond.stringRef "PinEngines$Symbol" (311 : Nat) "level" ∈ tb := tb_at 2963 (by decide +kernel) rfl
theorem q2964 : Cond.stringRef "PinEngines$Symbol" (283 : Nat) ":" ∈ tb := tb_at 2964 (by decide +kernel) rfl
theorem q2965 : Cond.stringRef "PinEngines$Symbol" (413 : Nat) "pin" ∈ tb := tb_at 2965 (by decide +kernel) rfl
theorem q2966 : Cond.stringRef "PinEngines$Symbol" (449 : Nat) "iffull" ∈ tb := tb_at 2966 (by decide +kernel) rfl
theorem q2967 : Cond.stringRef "PinEngines$Symbol" (455 : Nat) "noblock" ∈ tb := tb_at 2967 (by decide +kernel) rfl
theorem q2968 : Cond.stringRef "PinEngines$Symbol" (452 : Nat) "ifempty" ∈ tb := tb_at 2968 (by decide +kernel) rfl
theorem q2969 : Cond.stringRef "PinEngines$Symbol" (314 : Nat) "side" ∈ tb := tb_at 2969 (by decide +kernel) rfl
theorem q2970 : Cond.stringRef "PinEngines$Symbol" (317 : Nat) "delay" ∈ tb := tb_at 2970 (by decide +kernel) rfl
theorem q2971 : Cond.stringRef "PinEngines$Symbol" (286 : Nat) ";" ∈ tb := tb_at 2971 (by decide +kernel) rfl
theorem q2972 : Cond.stringRef "PinEngines$Symbol" (392 : Nat) "load" ∈ tb := tb_at 2972 (by decide +kernel) rfl
theorem q2973 : Cond.stringRef "PinEngines$Symbol" (395 : Nat) "store" ∈ tb := tb_at 2973 (by decide +kernel) rfl
theorem q2974 : Cond.stringRef "PinEngines$Symbol" (425 : Nat) "x" ∈ tb := tb_at 2974 (by decide +kernel) rfl
theorem q2975 : Cond.stringRef "PinEngines$Symbol" (428 : Nat) "y" ∈ tb := tb_at 2975 (by decide +kernel) rfl
theorem q2976 : Cond.stringRef "PinEngines$Symbol" (434 : Nat) "isr" ∈ tb := tb_at 2976 (by decide +kernel) rfl
theorem q2977 : Cond.stringRef "PinEngines$Symbol" (458 : Nat) "not" ∈ tb := tb_at 2977 (by decide +kernel) rfl
theorem q2978 : Cond.stringRef "PinEngines$Symbol" (461 : Nat) "reverse" ∈ tb := tb_at 2978 (by decide +kernel) rfl
theorem q2979 : Cond.stringRef "PinEngines$Symbol" (422 : Nat) "pins" ∈ tb := tb_at 2979 (by decide +kernel) rfl
theorem q2980 : Cond.stringRef "PinEngines$Symbol" (440 : Nat) "dirs" ∈ tb := tb_at 2980 (by decide +kernel) rfl
theorem q2981 : Cond.stringRef "PinEngines$Symbol" (289 : Nat) "(" ∈ tb := tb_at 2981 (by decide +kernel) rfl
theorem q2982 : Cond.stringRef "PinEngines$Symbol" (295 : Nat) "<" ∈ tb := tb_at 2982 (by decide +kernel) rfl
theorem q2983 : Cond.stringRef "PinEngines$Symbol" (302 : Nat) ">" ∈ tb := tb_at 2983 (by decide +kernel) rfl
theorem q2984 : Cond.stringRef "PinEngines$Symbol" (292 : Nat) ")" ∈ tb := tb_at 2984 (by decide +kernel) rfl
theorem q2985 : Cond.stringRef "PinEngines$Symbol" (473 : Nat) "and" ∈ tb := tb_at 2985 (by decide +kernel) rfl
theorem q2986 : Cond.stringRef "PinEngines$Symbol" (470 : Nat) "or" ∈ tb := tb_at 2986 (by decide +kernel) rfl
theorem q2987 : Cond.stringRef "PinEngines$Symbol" (464 : Nat) "many" ∈ tb := tb_at 2987 (by decide +kernel) rfl
theorem q2988 : Cond.stringRef "PinEngines$Symbol" (299 : Nat) "=" ∈ tb := tb_at 2988 (by decide +kernel) rfl
theorem q2989 : Cond.stringRef "PinEngines$Symbol" (320 : Nat) "clock" ∈ tb := tb_at 2989 (by decide +kernel) rfl
theorem q2990 : Cond.stringRef "PinEngines$Symbol" (323 : Nat) "wrap" ∈ tb := tb_at 2990 (by decide +kernel) rfl
theorem q2991 : Cond.stringRef "PinEngines$Symbol" (326 : Nat) "outpins" ∈ tb := tb_at 2991 (by decide +kernel) rfl
theorem q2992 : Cond.stringRef "PinEngines$Symbol" (329 : Nat) "setpins" ∈ tb := tb_at 2992 (by decide +kernel) rfl
theorem q2993 : Cond.stringRef "PinEngines$Symbol" (332 : Nat) "sidepins" ∈ tb := tb_at 2993 (by decide +kernel) rfl
theorem q2994 : Cond.stringRef "PinEngines$Symbol" (335 : Nat) "inpins" ∈ tb := tb_at 2994 (by decide +kernel) rfl
theorem q2995 : Cond.stringRef "PinEngines$Symbol" (338 : Nat) "jumppin" ∈ tb := tb_at 2995 (by decide +kernel) rfl
theorem q2996 : Cond.stringRef "PinEngines$Symbol" (341 : Nat) "inleft" ∈ tb := tb_at 2996 (by decide +kernel) rfl
theorem q2997 : Cond.stringRef "PinEngines$Symbol" (344 : Nat) "outleft" ∈ tb := tb_at 2997 (by decide +kernel) rfl
theorem q2998 : Cond.stringRef "PinEngines$Symbol" (347 : Nat) "autopush" ∈ tb := tb_at 2998 (by decide +kernel) rfl
theorem q2999 : Cond.stringRef "PinEngines$Symbol" (350 : Nat) "autopull" ∈ tb := tb_at 2999 (by decide +kernel) rfl
theorem q3000 : Cond.stringRef "PinEngines$Symbol" (353 : Nat) "joinin" ∈ tb := tb_at 3000 (by decide +kernel) rfl
theorem q3001 : Cond.stringRef "PinEngines$Symbol" (356 : Nat) "joinout" ∈ tb := tb_at 3001 (by decide +kernel) rfl
theorem q3002 : Cond.stringRef "PinEngines$Symbol" (359 : Nat) "jmp" ∈ tb := tb_at 3002 (by decide +kernel) rfl
theorem q3003 : Cond.stringRef "PinEngines$Symbol" (362 : Nat) "wait" ∈ tb := tb_at 3003 (by decide +kernel) rfl
theorem q3004 : Cond.stringRef "PinEngines$Symbol" (365 : Nat) "in" ∈ tb := tb_at 3004 (by decide +kernel) rfl
theorem q3005 : Cond.stringRef "PinEngines$Symbol" (368 : Nat) "out" ∈ tb := tb_at 3005 (by decide +kernel) rfl
theorem q3006 : Cond.stringRef "PinEngines$Symbol" (371 : Nat) "push" ∈ tb := tb_at 3006 (by decide +kernel) rfl
theorem q3007 : Cond.stringRef "PinEngines$Symbol" (374 : Nat) "pull" ∈ tb := tb_at 3007 (by decide +kernel) rfl
theorem q3008 : Cond.stringRef "PinEngines$Symbol" (377 : Nat) "mov" ∈ tb := tb_at 3008 (by decide +kernel) rfl
theorem q3009 : Cond.stringRef "PinEngines$Symbol" (380 : Nat) "raise" ∈ tb := tb_at 3009 (by decide +kernel) rfl
theorem q3010 : Cond.stringRef "PinEngines$Symbol" (383 : Nat) "clear" ∈ tb := tb_at 3010 (by decide +kernel) rfl
theorem q3011 : Cond.stringRef "PinEngines$Symbol" (386 : Nat) "signal" ∈ tb := tb_at 3011 (by decide +kernel) rfl
theorem q3012 : Cond.stringRef "PinEngines$Symbol" (389 : Nat) "set" ∈ tb := tb_at 3012 (by decide +kernel) rfl
theorem q3013 : Cond.stringRef "PinEngines$Symbol" (398 : Nat) "xzero" ∈ tb := tb_at 3013 (by decide +kernel) rfl
theorem q3014 : Cond.stringRef "PinEngines$Symbol" (401 : Nat) "yzero" ∈ tb := tb_at 3014 (by decide +kernel) rfl
theorem q3015 : Cond.stringRef "PinEngines$Symbol" (404 : Nat) "xdec" ∈ tb := tb_at 3015 (by decide +kernel) rfl
theorem q3016 : Cond.stringRef "PinEngines$Symbol" (407 : Nat) "ydec" ∈ tb := tb_at 3016 (by decide +kernel) rfl
theorem q3017 : Cond.stringRef "PinEngines$Symbol" (410 : Nat) "differ" ∈ tb := tb_at 3017 (by decide +kernel) rfl
theorem q3018 : Cond.stringRef "PinEngines$Symbol" (416 : Nat) "more" ∈ tb := tb_at 3018 (by decide +kernel) rfl
theorem q3019 : Cond.stringRef "PinEngines$Symbol" (419 : Nat) "flag" ∈ tb := tb_at 3019 (by decide +kernel) rfl
theorem q3020 : Cond.stringRef "PinEngines$Symbol" (431 : Nat) "null" ∈ tb := tb_at 3020 (by decide +kernel) rfl
theorem q3021 : Cond.stringRef "PinEngines$Symbol" (437 : Nat) "osr" ∈ tb := tb_at 3021 (by decide +kernel) rfl
theorem q3022 : Cond.stringRef "PinEngines$Symbol" (443 : Nat) "pc" ∈ tb := tb_at 3022 (by decide +kernel) rfl
theorem q3023 : Cond.stringRef "PinEngines$Symbol" (446 : Nat) "status" ∈ tb := tb_at 3023 (by decide +kernel) rfl
theorem q3024 : Cond.stringRef "PinEngines$Symbol" (467 : Nat) "first" ∈ tb := tb_at 3024 (by decide +kernel) rfl
theorem q3025 : Cond.stringRef "PinEngines$Symbol" (476 : Nat) "fill" ∈ tb := tb_at 3025 (by decide +kernel) rfl
theorem q3026 : Cond.stringRef "PinEngines$Symbol" (479 : Nat) "spent" ∈ tb := tb_at 3026 (by decide +kernel) rfl
theorem q3027 : Cond.stringRef "PinEngines$Symbol" (482 : Nat) "stall" ∈ tb := tb_at 3027 (by decide +kernel) rfl
theorem q3028 : Cond.stringRef "PinEngines$Symbol" (485 : Nat) "input" ∈ tb := tb_at 3028 (by decide +kernel) rfl
theorem q3029 : Cond.stringRef "PinEngines$Symbol" (488 : Nat) "output" ∈ tb := tb_at 3029 (by decide +kernel) rfl
theorem qn250 : Cond.methodLinkNest "PinEngines$Program" (30 : Nat) ({ cls := "PinEngines$Instruction", name := "<init>", desc := "()V" } : Jvm.MethodName) "PinEngines" ∈ nwL := nw_at 250 (by decide +kernel) rfl
theorem qn466 : Cond.methodLinkNest "PinEngines$Machine" (33 : Nat) ({ cls := "PinEngines$Engine", name := "<init>", desc := "()V" } : Jvm.MethodName) "PinEngines" ∈ nwL := nw_at 466 (by decide +kernel) rfl
theorem qn472 : Cond.methodLinkNest "PinEngines$Engine" (11 : Nat) ({ cls := "PinEngines$Queue", name := "<init>", desc := "()V" } : Jvm.MethodName) "PinEngines" ∈ nwL := nw_at 472 (by decide +kernel) rfl
theorem qn905 : Cond.castable "java/lang/IllegalArgumentException" "java/lang/IllegalArgumentException" ∈ nwL := nw_at 905 (by decide +kernel) rfl
theorem qn906 : Cond.declares ({ cls := "java/lang/RuntimeException", name := "<init>", desc := "()V" } : Jvm.MethodName) ∈ nwL := nw_at 906 (by decide +kernel) rfl
theorem qn907 : Cond.declares ({ cls := "java/lang/RuntimeException", name := "<init>", desc := "(Ljava/lang/String;)V" } : Jvm.MethodName) ∈ nwL := nw_at 907 (by decide +kernel) rfl
theorem qn908 : Cond.declares ({ cls := "java/lang/Exception", name := "<init>", desc := "()V" } : Jvm.MethodName) ∈ nwL := nw_at 908 (by decide +kernel) rfl
theorem qn909 : Cond.declares ({ cls := "java/lang/Exception", name := "<init>", desc := "(Ljava/lang/String;)V" } : Jvm.MethodName) ∈ nwL := nw_at 909 (by decide +kernel) rfl
theorem qn910 : Cond.declares ({ cls := "java/lang/Throwable", name := "<init>", desc := "()V" } : Jvm.MethodName) ∈ nwL := nw_at 910 (by decide +kernel) rfl
theorem qn911 : Cond.declares ({ cls := "java/lang/Throwable", name := "<init>", desc := "(Ljava/lang/String;)V" } : Jvm.MethodName) ∈ nwL := nw_at 911 (by decide +kernel) rfl
theorem qn1124 : Cond.declares ({ cls := "java/lang/Enum", name := "ordinal", desc := "()I" } : Jvm.MethodName) ∈ nwL := nw_at 1124 (by decide +kernel) rfl
theorem qn1136 : Cond.methodLinkNest "PinEngines$ProgramReader" (302 : Nat) ({ cls := "PinEngines", name := "rotatedPins", desc := "(II)I" } : Jvm.MethodName) "PinEngines" ∈ nwL := nw_at 1136 (by decide +kernel) rfl
theorem qn1222 : Cond.castable "java/util/NoSuchElementException" "java/util/NoSuchElementException" ∈ nwL := nw_at 1222 (by decide +kernel) rfl
theorem qn1560 : Cond.methodLinkNest "PinEngines$Simulator" (131 : Nat) ({ cls := "PinEngines", name := "rotatedPins", desc := "(II)I" } : Jvm.MethodName) "PinEngines" ∈ nwL := nw_at 1560 (by decide +kernel) rfl
theorem qn1599 : Cond.methodLinkNest "PinEngines$Program" (57 : Nat) ({ cls := "PinEngines", name := "unsigned", desc := "(I)J" } : Jvm.MethodName) "PinEngines" ∈ nwL := nw_at 1599 (by decide +kernel) rfl
theorem qn1733 : Cond.castable "[B" "java/lang/Cloneable" ∈ nwL := nw_at 1733 (by decide +kernel) rfl
theorem qn1946 : Cond.methodLinkNest "PinEngines" (322 : Nat) ({ cls := "PinEngines$QueryReader", name := "readTest", desc := "(I)I" } : Jvm.MethodName) "PinEngines" ∈ nwL := nw_at 1946 (by decide +kernel) rfl
theorem qn2896 : Cond.castable "PinEngines" "java/lang/Object" ∈ nwL := nw_at 2896 (by decide +kernel) rfl
theorem qn2897 : Cond.castable "PinEngines$Tokens" "java/lang/Object" ∈ nwL := nw_at 2897 (by decide +kernel) rfl
theorem qn2898 : Cond.castable "PinEngines$Symbol" "java/lang/Object" ∈ nwL := nw_at 2898 (by decide +kernel) rfl
theorem qn2899 : Cond.castable "PinEngines$Program" "java/lang/Object" ∈ nwL := nw_at 2899 (by decide +kernel) rfl
theorem qn2900 : Cond.castable "PinEngines$Instruction" "java/lang/Object" ∈ nwL := nw_at 2900 (by decide +kernel) rfl
theorem qn2901 : Cond.castable "PinEngines$Setup" "java/lang/Object" ∈ nwL := nw_at 2901 (by decide +kernel) rfl
theorem qn2902 : Cond.castable "PinEngines$ProgramReader" "java/lang/Object" ∈ nwL := nw_at 2902 (by decide +kernel) rfl
theorem qn2903 : Cond.castable "PinEngines$Machine" "java/lang/Object" ∈ nwL := nw_at 2903 (by decide +kernel) rfl
theorem qn2904 : Cond.castable "PinEngines$Engine" "java/lang/Object" ∈ nwL := nw_at 2904 (by decide +kernel) rfl
theorem qn2905 : Cond.castable "PinEngines$Queue" "java/lang/Object" ∈ nwL := nw_at 2905 (by decide +kernel) rfl
theorem qn2906 : Cond.castable "PinEngines$Simulator" "java/lang/Object" ∈ nwL := nw_at 2906 (by decide +kernel) rfl
theorem qn2907 : Cond.castable "PinEngines$QueryReader" "java/lang/Object" ∈ nwL := nw_at 2907 (by decide +kernel) rfl
theorem qn2908 : Cond.castable "java/lang/StringBuilder" "java/lang/Object" ∈ nwL := nw_at 2908 (by decide +kernel) rfl
theorem qn2909 : Cond.castable "PinEnginesModel" "java/lang/Object" ∈ nwL := nw_at 2909 (by decide +kernel) rfl
theorem qn2910 : Cond.castable "java/lang/IllegalArgumentException" "java/lang/Object" ∈ nwL := nw_at 2910 (by decide +kernel) rfl
theorem qn2911 : Cond.castable "java/util/NoSuchElementException" "java/lang/Object" ∈ nwL := nw_at 2911 (by decide +kernel) rfl
theorem qn2912 : Cond.castable "java/lang/String" "java/lang/Object" ∈ nwL := nw_at 2912 (by decide +kernel) rfl
theorem qn2913 : Cond.castable "java/lang/Throwable" "java/lang/Object" ∈ nwL := nw_at 2913 (by decide +kernel) rfl
