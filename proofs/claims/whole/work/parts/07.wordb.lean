theorem q541 : Cond.fieldLink "PinEngines" (217 : Nat) "PinEngines$Engine" "counts" "[I" ∈ tb := tb_of (lw_c2 (List.mem_of_getElem? (i := 147) (by decide +kernel))) rfl
theorem q542 : Cond.lays "PinEngines$Engine" "PinEngines$Engine" "pc" "I" ∈ tb := tb_of (lw_c2 (List.mem_of_getElem? (i := 148) (by decide +kernel))) rfl
theorem q544 : Cond.lays "PinEngines$Engine" "PinEngines$Engine" "x" "I" ∈ tb := tb_of (lw_c2 (List.mem_of_getElem? (i := 150) (by decide +kernel))) rfl
theorem q546 : Cond.lays "PinEngines$Engine" "PinEngines$Engine" "y" "I" ∈ tb := tb_of (lw_c2 (List.mem_of_getElem? (i := 152) (by decide +kernel))) rfl
theorem q548 : Cond.lays "PinEngines$Engine" "PinEngines$Engine" "isr" "I" ∈ tb := tb_of (lw_c2 (List.mem_of_getElem? (i := 154) (by decide +kernel))) rfl
theorem q550 : Cond.lays "PinEngines$Engine" "PinEngines$Engine" "osr" "I" ∈ tb := tb_of (lw_c2 (List.mem_of_getElem? (i := 156) (by decide +kernel))) rfl
theorem q552 : Cond.lays "PinEngines$Engine" "PinEngines$Engine" "fill" "I" ∈ tb := tb_of (lw_c2 (List.mem_of_getElem? (i := 158) (by decide +kernel))) rfl
theorem q554 : Cond.lays "PinEngines$Engine" "PinEngines$Engine" "spent" "I" ∈ tb := tb_of (lw_c2 (List.mem_of_getElem? (i := 160) (by decide +kernel))) rfl
theorem q556 : Cond.lays "PinEngines$Engine" "PinEngines$Engine" "delay" "I" ∈ tb := tb_of (lw_c2 (List.mem_of_getElem? (i := 162) (by decide +kernel))) rfl
theorem q558 : Cond.lays "PinEngines$Engine" "PinEngines$Engine" "stall" "I" ∈ tb := tb_of (lw_c2 (List.mem_of_getElem? (i := 164) (by decide +kernel))) rfl
theorem q560 : Cond.lays "PinEngines$Engine" "PinEngines$Engine" "counter" "I" ∈ tb := tb_of (lw_c2 (List.mem_of_getElem? (i := 166) (by decide +kernel))) rfl
theorem q562 : Cond.lays "PinEngines$Engine" "PinEngines$Engine" "enabled" "Z" ∈ tb := tb_of (lw_c2 (List.mem_of_getElem? (i := 168) (by decide +kernel))) rfl
theorem q564 : Cond.laysFinal "PinEngines$Engine" "PinEngines$Engine" "input" "LPinEngines$Queue;" ∈ tb := tb_of (lw_c2 (List.mem_of_getElem? (i := 170) (by decide +kernel))) rfl
theorem q566 : Cond.laysFinal "PinEngines$Engine" "PinEngines$Engine" "output" "LPinEngines$Queue;" ∈ tb := tb_of (lw_c2 (List.mem_of_getElem? (i := 172) (by decide +kernel))) rfl
theorem q568 : Cond.laysFinal "PinEngines$Engine" "PinEngines$Engine" "counts" "[I" ∈ tb := tb_of (lw_c2 (List.mem_of_getElem? (i := 174) (by decide +kernel))) rfl
theorem q571 : Cond.fieldLink "PinEngines$Machine" (34 : Nat) "PinEngines$Machine" "clock" "I" ∈ tb := tb_of (lw_c2 (List.mem_of_getElem? (i := 177) (by decide +kernel))) rfl
theorem q572 : Cond.fieldLink "PinEngines" (131 : Nat) "PinEngines$Machine" "clock" "I" ∈ tb := tb_of (lw_c2 (List.mem_of_getElem? (i := 178) (by decide +kernel))) rfl
theorem q573 : Cond.fieldLink "PinEngines$Machine" (38 : Nat) "PinEngines$Machine" "latches" "I" ∈ tb := tb_of (lw_c2 (List.mem_of_getElem? (i := 179) (by decide +kernel))) rfl
theorem q574 : Cond.fieldLink "PinEngines" (140 : Nat) "PinEngines$Machine" "latches" "I" ∈ tb := tb_of (lw_c2 (List.mem_of_getElem? (i := 180) (by decide +kernel))) rfl
theorem q575 : Cond.fieldLink "PinEngines$Machine" (41 : Nat) "PinEngines$Machine" "outputs" "I" ∈ tb := tb_of (lw_c2 (List.mem_of_getElem? (i := 181) (by decide +kernel))) rfl
theorem q576 : Cond.fieldLink "PinEngines" (143 : Nat) "PinEngines$Machine" "outputs" "I" ∈ tb := tb_of (lw_c2 (List.mem_of_getElem? (i := 182) (by decide +kernel))) rfl
theorem q577 : Cond.fieldLink "PinEngines$Machine" (49 : Nat) "PinEngines$Machine" "outside" "I" ∈ tb := tb_of (lw_c2 (List.mem_of_getElem? (i := 183) (by decide +kernel))) rfl
theorem q578 : Cond.fieldLink "PinEngines$Machine" (50 : Nat) "PinEngines$Machine" "flags" "I" ∈ tb := tb_of (lw_c2 (List.mem_of_getElem? (i := 184) (by decide +kernel))) rfl
theorem q579 : Cond.fieldLink "PinEngines$Simulator" (31 : Nat) "PinEngines$Machine" "flags" "I" ∈ tb := tb_of (lw_c2 (List.mem_of_getElem? (i := 185) (by decide +kernel))) rfl
theorem q580 : Cond.fieldLink "PinEngines" (149 : Nat) "PinEngines$Machine" "flags" "I" ∈ tb := tb_of (lw_c2 (List.mem_of_getElem? (i := 186) (by decide +kernel))) rfl
theorem q581 : Cond.fieldLink "PinEngines$Machine" (53 : Nat) "PinEngines$Machine" "portOwner" "I" ∈ tb := tb_of (lw_c2 (List.mem_of_getElem? (i := 187) (by decide +kernel))) rfl
theorem q582 : Cond.fieldLink "PinEngines$Simulator" (77 : Nat) "PinEngines$Machine" "portOwner" "I" ∈ tb := tb_of (lw_c2 (List.mem_of_getElem? (i := 188) (by decide +kernel))) rfl
theorem q583 : Cond.fieldLink "PinEngines" (159 : Nat) "PinEngines$Machine" "portOwner" "I" ∈ tb := tb_of (lw_c2 (List.mem_of_getElem? (i := 189) (by decide +kernel))) rfl
theorem q584 : Cond.fieldLink "PinEngines$Machine" (9 : Nat) "PinEngines$Machine" "memory" "[I" ∈ tb := tb_of (lw_c2 (List.mem_of_getElem? (i := 190) (by decide +kernel))) rfl
theorem q585 : Cond.fieldLink "PinEngines" (155 : Nat) "PinEngines$Machine" "memory" "[I" ∈ tb := tb_of (lw_c2 (List.mem_of_getElem? (i := 191) (by decide +kernel))) rfl
theorem q586 : Cond.fieldLink "PinEngines$Simulator" (316 : Nat) "PinEngines$Machine" "memory" "[I" ∈ tb := tb_of (lw_c2 (List.mem_of_getElem? (i := 192) (by decide +kernel))) rfl
theorem q587 : Cond.fieldLink "PinEngines$Machine" (17 : Nat) "PinEngines$Machine" "engines" "[LPinEngines$Engine;" ∈ tb := tb_of (lw_c2 (List.mem_of_getElem? (i := 193) (by decide +kernel))) rfl
theorem q588 : Cond.fieldLink "PinEngines$Simulator" (48 : Nat) "PinEngines$Machine" "engines" "[LPinEngines$Engine;" ∈ tb := tb_of (lw_c2 (List.mem_of_getElem? (i := 194) (by decide +kernel))) rfl
theorem q589 : Cond.fieldLink "PinEngines$QueryReader" (109 : Nat) "PinEngines$Machine" "engines" "[LPinEngines$Engine;" ∈ tb := tb_of (lw_c2 (List.mem_of_getElem? (i := 195) (by decide +kernel))) rfl
theorem q590 : Cond.fieldLink "PinEngines" (281 : Nat) "PinEngines$Machine" "engines" "[LPinEngines$Engine;" ∈ tb := tb_of (lw_c2 (List.mem_of_getElem? (i := 196) (by decide +kernel))) rfl
theorem q591 : Cond.fieldLink "PinEngines$Machine" (64 : Nat) "PinEngines$Machine" "scheduledCount" "I" ∈ tb := tb_of (lw_c2 (List.mem_of_getElem? (i := 197) (by decide +kernel))) rfl
theorem q592 : Cond.fieldLink "PinEngines" (260 : Nat) "PinEngines$Machine" "scheduledCount" "I" ∈ tb := tb_of (lw_c2 (List.mem_of_getElem? (i := 198) (by decide +kernel))) rfl
theorem q593 : Cond.fieldLink "PinEngines$Machine" (21 : Nat) "PinEngines$Machine" "scheduled" "[I" ∈ tb := tb_of (lw_c2 (List.mem_of_getElem? (i := 199) (by decide +kernel))) rfl
theorem q594 : Cond.fieldLink "PinEngines$Machine" (71 : Nat) "PinEngines$Machine" "lastLevels" "I" ∈ tb := tb_of (lw_c2 (List.mem_of_getElem? (i := 200) (by decide +kernel))) rfl
theorem q595 : Cond.fieldLink "PinEngines$Machine" (24 : Nat) "PinEngines$Machine" "trail" "[I" ∈ tb := tb_of (lw_c2 (List.mem_of_getElem? (i := 201) (by decide +kernel))) rfl
theorem q596 : Cond.fieldLink "PinEngines$Machine" (27 : Nat) "PinEngines$Machine" "edges" "[I" ∈ tb := tb_of (lw_c2 (List.mem_of_getElem? (i := 202) (by decide +kernel))) rfl
theorem q597 : Cond.fieldLink "PinEngines" (223 : Nat) "PinEngines$Machine" "edges" "[I" ∈ tb := tb_of (lw_c2 (List.mem_of_getElem? (i := 203) (by decide +kernel))) rfl
theorem q598 : Cond.fieldLink "PinEngines$Machine" (30 : Nat) "PinEngines$Machine" "fallsLessRises" "[I" ∈ tb := tb_of (lw_c2 (List.mem_of_getElem? (i := 204) (by decide +kernel))) rfl
theorem q599 : Cond.lays "PinEngines$Machine" "PinEngines$Machine" "clock" "I" ∈ tb := tb_of (lw_c2 (List.mem_of_getElem? (i := 205) (by decide +kernel))) rfl
theorem q601 : Cond.lays "PinEngines$Machine" "PinEngines$Machine" "latches" "I" ∈ tb := tb_of (lw_c2 (List.mem_of_getElem? (i := 207) (by decide +kernel))) rfl
theorem q603 : Cond.lays "PinEngines$Machine" "PinEngines$Machine" "outputs" "I" ∈ tb := tb_of (lw_c2 (List.mem_of_getElem? (i := 209) (by decide +kernel))) rfl
theorem q605 : Cond.lays "PinEngines$Machine" "PinEngines$Machine" "outside" "I" ∈ tb := tb_of (lw_c2 (List.mem_of_getElem? (i := 211) (by decide +kernel))) rfl
theorem q607 : Cond.lays "PinEngines$Machine" "PinEngines$Machine" "flags" "I" ∈ tb := tb_of (lw_c2 (List.mem_of_getElem? (i := 213) (by decide +kernel))) rfl
theorem q609 : Cond.lays "PinEngines$Machine" "PinEngines$Machine" "portOwner" "I" ∈ tb := tb_of (lw_c2 (List.mem_of_getElem? (i := 215) (by decide +kernel))) rfl
theorem q611 : Cond.laysFinal "PinEngines$Machine" "PinEngines$Machine" "memory" "[I" ∈ tb := tb_of (lw_c2 (List.mem_of_getElem? (i := 217) (by decide +kernel))) rfl
theorem q613 : Cond.laysFinal "PinEngines$Machine" "PinEngines$Machine" "engines" "[LPinEngines$Engine;" ∈ tb := tb_of (lw_c2 (List.mem_of_getElem? (i := 219) (by decide +kernel))) rfl
theorem q615 : Cond.lays "PinEngines$Machine" "PinEngines$Machine" "scheduledCount" "I" ∈ tb := tb_of (lw_c2 (List.mem_of_getElem? (i := 221) (by decide +kernel))) rfl
theorem q617 : Cond.laysFinal "PinEngines$Machine" "PinEngines$Machine" "scheduled" "[I" ∈ tb := tb_of (lw_c2 (List.mem_of_getElem? (i := 223) (by decide +kernel))) rfl
theorem q619 : Cond.lays "PinEngines$Machine" "PinEngines$Machine" "lastLevels" "I" ∈ tb := tb_of (lw_c2 (List.mem_of_getElem? (i := 225) (by decide +kernel))) rfl
theorem q621 : Cond.laysFinal "PinEngines$Machine" "PinEngines$Machine" "trail" "[I" ∈ tb := tb_of (lw_c2 (List.mem_of_getElem? (i := 227) (by decide +kernel))) rfl
theorem q623 : Cond.laysFinal "PinEngines$Machine" "PinEngines$Machine" "edges" "[I" ∈ tb := tb_of (lw_c2 (List.mem_of_getElem? (i := 229) (by decide +kernel))) rfl
theorem q625 : Cond.laysFinal "PinEngines$Machine" "PinEngines$Machine" "fallsLessRises" "[I" ∈ tb := tb_of (lw_c2 (List.mem_of_getElem? (i := 231) (by decide +kernel))) rfl
theorem q628 : Cond.classLink "PinEngines" (58 : Nat) "PinEngines$Simulator" ∈ tb := tb_of (lw_c2 (List.mem_of_getElem? (i := 234) (by decide +kernel))) rfl
theorem q629 : Cond.instantiable "PinEngines$Simulator" (7 : Nat) ∈ tb := tb_of (lw_c2 (List.mem_of_getElem? (i := 235) (by decide +kernel))) rfl
theorem q630 : Cond.methodLink "PinEngines" (60 : Nat) ({ cls := "PinEngines$Simulator", name := "<init>", desc := "(LPinEngines$Program;LPinEngines$Machine;)V" } : Jvm.MethodName) ∈ tb := tb_of (lw_c2 (List.mem_of_getElem? (i := 236) (by decide +kernel))) rfl
theorem q631 : Cond.instanceMethod ({ cls := "PinEngines$Simulator", name := "<init>", desc := "(LPinEngines$Program;LPinEngines$Machine;)V" } : Jvm.MethodName) ∈ tb := tb_of (lw_c2 (List.mem_of_getElem? (i := 237) (by decide +kernel))) rfl
set_option maxRecDepth 100000 in
theorem q632 : Cond.code ({ cls := "PinEngines$Simulator", name := "<init>", desc := "(LPinEngines$Program;LPinEngines$Machine;)V" } : Jvm.MethodName) prog_11_method_1_code (3 : Nat) (Option.none : Option Jvm.ClassFile.FieldType) ∈ tb := tb_of (lw_c2 (List.mem_of_getElem? (i := 238) rfl)) rfl
theorem q633 : Cond.methodLink "PinEngines$Simulator" (3 : Nat) ({ cls := "java/lang/Object", name := "<init>", desc := "()V" } : Jvm.MethodName) ∈ tb := tb_of (lw_c2 (List.mem_of_getElem? (i := 239) (by decide +kernel))) rfl
theorem q634 : Cond.fieldLink "PinEngines$Simulator" (9 : Nat) "PinEngines$Simulator" "program" "LPinEngines$Program;" ∈ tb := tb_of (lw_c3 (List.mem_of_getElem? (i := 0) (by decide +kernel))) rfl
theorem q635 : Cond.fieldLink "PinEngines" (123 : Nat) "PinEngines$Simulator" "program" "LPinEngines$Program;" ∈ tb := tb_of (lw_c3 (List.mem_of_getElem? (i := 1) (by decide +kernel))) rfl
theorem q636 : Cond.fieldLink "PinEngines$Simulator" (15 : Nat) "PinEngines$Simulator" "machine" "LPinEngines$Machine;" ∈ tb := tb_of (lw_c3 (List.mem_of_getElem? (i := 2) (by decide +kernel))) rfl
theorem q637 : Cond.fieldLink "PinEngines$Simulator" (28 : Nat) "PinEngines$Simulator" "levels" "I" ∈ tb := tb_of (lw_c3 (List.mem_of_getElem? (i := 3) (by decide +kernel))) rfl
theorem q638 : Cond.fieldLink "PinEngines$Simulator" (34 : Nat) "PinEngines$Simulator" "flags" "I" ∈ tb := tb_of (lw_c3 (List.mem_of_getElem? (i := 4) (by decide +kernel))) rfl
theorem q639 : Cond.fieldLink "PinEngines$Simulator" (35 : Nat) "PinEngines$Simulator" "raised" "I" ∈ tb := tb_of (lw_c3 (List.mem_of_getElem? (i := 5) (by decide +kernel))) rfl
theorem q640 : Cond.fieldLink "PinEngines$Simulator" (38 : Nat) "PinEngines$Simulator" "cleared" "I" ∈ tb := tb_of (lw_c3 (List.mem_of_getElem? (i := 6) (by decide +kernel))) rfl
theorem q641 : Cond.fieldLink "PinEngines$Simulator" (111 : Nat) "PinEngines$Simulator" "nextPc" "I" ∈ tb := tb_of (lw_c3 (List.mem_of_getElem? (i := 7) (by decide +kernel))) rfl
theorem q642 : Cond.lays "PinEngines$Simulator" "PinEngines$Simulator" "program" "LPinEngines$Program;" ∈ tb := tb_of (lw_c3 (List.mem_of_getElem? (i := 8) (by decide +kernel))) rfl
theorem q644 : Cond.lays "PinEngines$Simulator" "PinEngines$Simulator" "machine" "LPinEngines$Machine;" ∈ tb := tb_of (lw_c3 (List.mem_of_getElem? (i := 10) (by decide +kernel))) rfl
theorem q646 : Cond.lays "PinEngines$Simulator" "PinEngines$Simulator" "levels" "I" ∈ tb := tb_of (lw_c3 (List.mem_of_getElem? (i := 12) (by decide +kernel))) rfl
theorem q648 : Cond.lays "PinEngines$Simulator" "PinEngines$Simulator" "flags" "I" ∈ tb := tb_of (lw_c3 (List.mem_of_getElem? (i := 14) (by decide +kernel))) rfl
theorem q650 : Cond.lays "PinEngines$Simulator" "PinEngines$Simulator" "raised" "I" ∈ tb := tb_of (lw_c3 (List.mem_of_getElem? (i := 16) (by decide +kernel))) rfl
theorem q652 : Cond.lays "PinEngines$Simulator" "PinEngines$Simulator" "cleared" "I" ∈ tb := tb_of (lw_c3 (List.mem_of_getElem? (i := 18) (by decide +kernel))) rfl
theorem q654 : Cond.lays "PinEngines$Simulator" "PinEngines$Simulator" "nextPc" "I" ∈ tb := tb_of (lw_c3 (List.mem_of_getElem? (i := 20) (by decide +kernel))) rfl
theorem q657 : Cond.classLink "PinEngines" (67 : Nat) "PinEngines$QueryReader" ∈ tb := tb_of (lw_c3 (List.mem_of_getElem? (i := 23) (by decide +kernel))) rfl
theorem q658 : Cond.instantiable "PinEngines$QueryReader" (4 : Nat) ∈ tb := tb_of (lw_c3 (List.mem_of_getElem? (i := 24) (by decide +kernel))) rfl
theorem q659 : Cond.methodLink "PinEngines" (69 : Nat) ({ cls := "PinEngines$QueryReader", name := "<init>", desc := "(LPinEngines$Tokens;LPinEngines$Machine;)V" } : Jvm.MethodName) ∈ tb := tb_of (lw_c3 (List.mem_of_getElem? (i := 25) (by decide +kernel))) rfl
theorem q660 : Cond.instanceMethod ({ cls := "PinEngines$QueryReader", name := "<init>", desc := "(LPinEngines$Tokens;LPinEngines$Machine;)V" } : Jvm.MethodName) ∈ tb := tb_of (lw_c3 (List.mem_of_getElem? (i := 26) (by decide +kernel))) rfl
set_option maxRecDepth 100000 in
theorem q661 : Cond.code ({ cls := "PinEngines$QueryReader", name := "<init>", desc := "(LPinEngines$Tokens;LPinEngines$Machine;)V" } : Jvm.MethodName) prog_8_method_1_code (3 : Nat) (Option.none : Option Jvm.ClassFile.FieldType) ∈ tb := tb_of (lw_c3 (List.mem_of_getElem? (i := 27) rfl)) rfl
theorem q662 : Cond.methodLink "PinEngines$QueryReader" (3 : Nat) ({ cls := "java/lang/Object", name := "<init>", desc := "()V" } : Jvm.MethodName) ∈ tb := tb_of (lw_c3 (List.mem_of_getElem? (i := 28) (by decide +kernel))) rfl
theorem q663 : Cond.fieldLink "PinEngines$QueryReader" (18 : Nat) "PinEngines$QueryReader" "tokens" "LPinEngines$Tokens;" ∈ tb := tb_of (lw_c3 (List.mem_of_getElem? (i := 29) (by decide +kernel))) rfl
theorem q664 : Cond.fieldLink "PinEngines$QueryReader" (22 : Nat) "PinEngines$QueryReader" "machine" "LPinEngines$Machine;" ∈ tb := tb_of (lw_c3 (List.mem_of_getElem? (i := 30) (by decide +kernel))) rfl
theorem q665 : Cond.fieldLink "PinEngines$QueryReader" (9 : Nat) "PinEngines$QueryReader" "left" "[I" ∈ tb := tb_of (lw_c3 (List.mem_of_getElem? (i := 31) (by decide +kernel))) rfl
theorem q666 : Cond.fieldLink "PinEngines$QueryReader" (15 : Nat) "PinEngines$QueryReader" "right" "[I" ∈ tb := tb_of (lw_c3 (List.mem_of_getElem? (i := 32) (by decide +kernel))) rfl
theorem q667 : Cond.laysFinal "PinEngines$QueryReader" "PinEngines$QueryReader" "tokens" "LPinEngines$Tokens;" ∈ tb := tb_of (lw_c3 (List.mem_of_getElem? (i := 33) (by decide +kernel))) rfl
theorem q669 : Cond.laysFinal "PinEngines$QueryReader" "PinEngines$QueryReader" "machine" "LPinEngines$Machine;" ∈ tb := tb_of (lw_c3 (List.mem_of_getElem? (i := 35) (by decide +kernel))) rfl
theorem q671 : Cond.laysFinal "PinEngines$QueryReader" "PinEngines$QueryReader" "left" "[I" ∈ tb := tb_of (lw_c3 (List.mem_of_getElem? (i := 37) (by decide +kernel))) rfl
theorem q673 : Cond.laysFinal "PinEngines$QueryReader" "PinEngines$QueryReader" "right" "[I" ∈ tb := tb_of (lw_c3 (List.mem_of_getElem? (i := 39) (by decide +kernel))) rfl
theorem q677 : Cond.classLink "PinEngines" (93 : Nat) "java/lang/StringBuilder" ∈ tb := tb_of (lw_c3 (List.mem_of_getElem? (i := 43) (by decide +kernel))) rfl
theorem q678 : Cond.instantiable "java/lang/StringBuilder" (4 : Nat) ∈ tb := tb_of (lw_c3 (List.mem_of_getElem? (i := 44) (by decide +kernel))) rfl
theorem q679 : Cond.methodLink "PinEngines" (95 : Nat) ({ cls := "java/lang/StringBuilder", name := "<init>", desc := "()V" } : Jvm.MethodName) ∈ tb := tb_of (lw_c3 (List.mem_of_getElem? (i := 45) (by decide +kernel))) rfl
theorem q680 : Cond.instanceMethod ({ cls := "java/lang/StringBuilder", name := "<init>", desc := "()V" } : Jvm.MethodName) ∈ tb := tb_of (lw_c3 (List.mem_of_getElem? (i := 46) (by decide +kernel))) rfl
set_option maxRecDepth 100000 in
theorem q681 : Cond.code ({ cls := "java/lang/StringBuilder", name := "<init>", desc := "()V" } : Jvm.MethodName) prog_30_method_1_code (1 : Nat) (Option.none : Option Jvm.ClassFile.FieldType) ∈ tb := tb_of (lw_c3 (List.mem_of_getElem? (i := 47) rfl)) rfl
theorem q682 : Cond.methodLink "java/lang/StringBuilder" (1 : Nat) ({ cls := "java/lang/AbstractStringBuilder", name := "<init>", desc := "(I)V" } : Jvm.MethodName) ∈ tb := tb_of (lw_c3 (List.mem_of_getElem? (i := 48) (by decide +kernel))) rfl
theorem q683 : Cond.instanceMethod ({ cls := "java/lang/AbstractStringBuilder", name := "<init>", desc := "(I)V" } : Jvm.MethodName) ∈ tb := tb_of (lw_c3 (List.mem_of_getElem? (i := 49) (by decide +kernel))) rfl
set_option maxRecDepth 100000 in
theorem q684 : Cond.code ({ cls := "java/lang/AbstractStringBuilder", name := "<init>", desc := "(I)V" } : Jvm.MethodName) prog_17_method_2_code (2 : Nat) (Option.none : Option Jvm.ClassFile.FieldType) ∈ tb := tb_of (lw_c3 (List.mem_of_getElem? (i := 50) rfl)) rfl
theorem q685 : Cond.methodLink "java/lang/AbstractStringBuilder" (3 : Nat) ({ cls := "java/lang/Object", name := "<init>", desc := "()V" } : Jvm.MethodName) ∈ tb := tb_of (lw_c3 (List.mem_of_getElem? (i := 51) (by decide +kernel))) rfl
theorem q686 : Cond.fieldLink "java/lang/AbstractStringBuilder" (18 : Nat) "java/lang/String" "COMPACT_STRINGS" "Z" ∈ tb := tb_of (lw_c3 (List.mem_of_getElem? (i := 52) (by decide +kernel))) rfl
theorem q688 : Cond.methodLink "java/lang/AbstractStringBuilder" (26 : Nat) ({ cls := "java/lang/StringUTF16", name := "newBytesFor", desc := "(I)[B" } : Jvm.MethodName) ∈ tb := tb_of (lw_c3 (List.mem_of_getElem? (i := 54) (by decide +kernel))) rfl
theorem q695 : Cond.fieldLink "java/lang/AbstractStringBuilder" (15 : Nat) "java/lang/AbstractStringBuilder" "value" "[B" ∈ tb := tb_of (lw_c3 (List.mem_of_getElem? (i := 61) (by decide +kernel))) rfl
theorem q696 : Cond.fieldLink "java/lang/AbstractStringBuilder" (22 : Nat) "java/lang/AbstractStringBuilder" "coder" "B" ∈ tb := tb_of (lw_c3 (List.mem_of_getElem? (i := 62) (by decide +kernel))) rfl
theorem q697 : Cond.fieldLink "java/lang/AbstractStringBuilder" (73 : Nat) "java/lang/AbstractStringBuilder" "maybeLatin1" "Z" ∈ tb := tb_of (lw_c3 (List.mem_of_getElem? (i := 63) (by decide +kernel))) rfl
theorem q698 : Cond.fieldLink "java/lang/String" (1048 : Nat) "java/lang/AbstractStringBuilder" "maybeLatin1" "Z" ∈ tb := tb_of (lw_c3 (List.mem_of_getElem? (i := 64) (by decide +kernel))) rfl
theorem q699 : Cond.fieldLink "java/lang/AbstractStringBuilder" (79 : Nat) "java/lang/AbstractStringBuilder" "count" "I" ∈ tb := tb_of (lw_c3 (List.mem_of_getElem? (i := 65) (by decide +kernel))) rfl
theorem q700 : Cond.lays "java/lang/StringBuilder" "java/lang/AbstractStringBuilder" "value" "[B" ∈ tb := tb_of (lw_c3 (List.mem_of_getElem? (i := 66) (by decide +kernel))) rfl
theorem q702 : Cond.lays "java/lang/StringBuilder" "java/lang/AbstractStringBuilder" "coder" "B" ∈ tb := tb_of (lw_c3 (List.mem_of_getElem? (i := 68) (by decide +kernel))) rfl
theorem q704 : Cond.lays "java/lang/StringBuilder" "java/lang/AbstractStringBuilder" "maybeLatin1" "Z" ∈ tb := tb_of (lw_c3 (List.mem_of_getElem? (i := 70) (by decide +kernel))) rfl
theorem q706 : Cond.lays "java/lang/StringBuilder" "java/lang/AbstractStringBuilder" "count" "I" ∈ tb := tb_of (lw_c3 (List.mem_of_getElem? (i := 72) (by decide +kernel))) rfl
theorem q709 : Cond.methodLink "PinEngines" (100 : Nat) ({ cls := "PinEngines$Machine", name := "begin", desc := "(LPinEngines$Program;)V" } : Jvm.MethodName) ∈ tb := tb_of (lw_c3 (List.mem_of_getElem? (i := 75) (by decide +kernel))) rfl
theorem q710 : Cond.instanceMethod ({ cls := "PinEngines$Machine", name := "begin", desc := "(LPinEngines$Program;)V" } : Jvm.MethodName) ∈ tb := tb_of (lw_c3 (List.mem_of_getElem? (i := 76) (by decide +kernel))) rfl
theorem q711 : Cond.selects "PinEngines$Machine" ({ cls := "PinEngines$Machine", name := "begin", desc := "(LPinEngines$Program;)V" } : Jvm.MethodName) ({ cls := "PinEngines$Machine", name := "begin", desc := "(LPinEngines$Program;)V" } : Jvm.MethodName) ∈ tb := tb_of (lw_c3 (List.mem_of_getElem? (i := 77) (by decide +kernel))) rfl
set_option maxRecDepth 100000 in
theorem q712 : Cond.code ({ cls := "PinEngines$Machine", name := "begin", desc := "(LPinEngines$Program;)V" } : Jvm.MethodName) prog_5_method_2_code (3 : Nat) (Option.none : Option Jvm.ClassFile.FieldType) ∈ tb := tb_of (lw_c3 (List.mem_of_getElem? (i := 78) rfl)) rfl
theorem q713 : Cond.methodLink "PinEngines$Machine" (60 : Nat) ({ cls := "PinEngines$Engine", name := "begin", desc := "(LPinEngines$Setup;)V" } : Jvm.MethodName) ∈ tb := tb_of (lw_c3 (List.mem_of_getElem? (i := 79) (by decide +kernel))) rfl
theorem q714 : Cond.instanceMethod ({ cls := "PinEngines$Engine", name := "begin", desc := "(LPinEngines$Setup;)V" } : Jvm.MethodName) ∈ tb := tb_of (lw_c3 (List.mem_of_getElem? (i := 80) (by decide +kernel))) rfl
theorem q715 : Cond.selects "PinEngines$Engine" ({ cls := "PinEngines$Engine", name := "begin", desc := "(LPinEngines$Setup;)V" } : Jvm.MethodName) ({ cls := "PinEngines$Engine", name := "begin", desc := "(LPinEngines$Setup;)V" } : Jvm.MethodName) ∈ tb := tb_of (lw_c3 (List.mem_of_getElem? (i := 81) (by decide +kernel))) rfl
set_option maxRecDepth 100000 in
theorem q716 : Cond.code ({ cls := "PinEngines$Engine", name := "begin", desc := "(LPinEngines$Setup;)V" } : Jvm.MethodName) prog_3_method_2_code (3 : Nat) (Option.none : Option Jvm.ClassFile.FieldType) ∈ tb := tb_of (lw_c3 (List.mem_of_getElem? (i := 82) rfl)) rfl
theorem q717 : Cond.methodLink "PinEngines$Engine" (25 : Nat) ({ cls := "PinEngines$Engine", name := "reset", desc := "(LPinEngines$Setup;)V" } : Jvm.MethodName) ∈ tb := tb_of (lw_c3 (List.mem_of_getElem? (i := 83) (by decide +kernel))) rfl
theorem q718 : Cond.instanceMethod ({ cls := "PinEngines$Engine", name := "reset", desc := "(LPinEngines$Setup;)V" } : Jvm.MethodName) ∈ tb := tb_of (lw_c3 (List.mem_of_getElem? (i := 84) (by decide +kernel))) rfl
theorem q719 : Cond.selects "PinEngines$Engine" ({ cls := "PinEngines$Engine", name := "reset", desc := "(LPinEngines$Setup;)V" } : Jvm.MethodName) ({ cls := "PinEngines$Engine", name := "reset", desc := "(LPinEngines$Setup;)V" } : Jvm.MethodName) ∈ tb := tb_of (lw_c3 (List.mem_of_getElem? (i := 85) (by decide +kernel))) rfl
set_option maxRecDepth 100000 in
theorem q720 : Cond.code ({ cls := "PinEngines$Engine", name := "reset", desc := "(LPinEngines$Setup;)V" } : Jvm.MethodName) prog_3_method_3_code (2 : Nat) (Option.none : Option Jvm.ClassFile.FieldType) ∈ tb := tb_of (lw_c3 (List.mem_of_getElem? (i := 86) rfl)) rfl
theorem q721 : Cond.methodLink "PinEngines$Engine" (75 : Nat) ({ cls := "PinEngines$Queue", name := "clear", desc := "(I)V" } : Jvm.MethodName) ∈ tb := tb_of (lw_c3 (List.mem_of_getElem? (i := 87) (by decide +kernel))) rfl
theorem q722 : Cond.instanceMethod ({ cls := "PinEngines$Queue", name := "clear", desc := "(I)V" } : Jvm.MethodName) ∈ tb := tb_of (lw_c3 (List.mem_of_getElem? (i := 88) (by decide +kernel))) rfl
theorem q723 : Cond.selects "PinEngines$Queue" ({ cls := "PinEngines$Queue", name := "clear", desc := "(I)V" } : Jvm.MethodName) ({ cls := "PinEngines$Queue", name := "clear", desc := "(I)V" } : Jvm.MethodName) ∈ tb := tb_of (lw_c3 (List.mem_of_getElem? (i := 89) (by decide +kernel))) rfl
set_option maxRecDepth 100000 in
theorem q724 : Cond.code ({ cls := "PinEngines$Queue", name := "clear", desc := "(I)V" } : Jvm.MethodName) prog_9_method_2_code (2 : Nat) (Option.none : Option Jvm.ClassFile.FieldType) ∈ tb := tb_of (lw_c3 (List.mem_of_getElem? (i := 90) rfl)) rfl
theorem q725 : Cond.methodLink "PinEngines$Queue" (25 : Nat) ({ cls := "java/lang/Math", name := "min", desc := "(II)I" } : Jvm.MethodName) ∈ tb := tb_of (lw_c3 (List.mem_of_getElem? (i := 91) (by decide +kernel))) rfl
theorem q726 : Cond.static ({ cls := "java/lang/Math", name := "min", desc := "(II)I" } : Jvm.MethodName) ∈ tb := tb_of (lw_c3 (List.mem_of_getElem? (i := 92) (by decide +kernel))) rfl
theorem q727 : Cond.code Lib.Math.min.name Lib.Math.min.code 2 (Option.some Jvm.ClassFile.FieldType.int) ∈ tb := tb_of (lw_c3 (List.mem_of_getElem? (i := 93) (by decide +kernel))) rfl
theorem q728 : Cond.methodLink "PinEngines$Queue" (31 : Nat) ({ cls := "java/lang/Math", name := "max", desc := "(II)I" } : Jvm.MethodName) ∈ tb := tb_of (lw_c3 (List.mem_of_getElem? (i := 94) (by decide +kernel))) rfl
theorem q729 : Cond.static ({ cls := "java/lang/Math", name := "max", desc := "(II)I" } : Jvm.MethodName) ∈ tb := tb_of (lw_c3 (List.mem_of_getElem? (i := 95) (by decide +kernel))) rfl
theorem q730 : Cond.code Lib.Math.max.name Lib.Math.max.code 2 (Option.some Jvm.ClassFile.FieldType.int) ∈ tb := tb_of (lw_c3 (List.mem_of_getElem? (i := 96) (by decide +kernel))) rfl
theorem q731 : Cond.methodLink "PinEngines$Engine" (79 : Nat) ({ cls := "PinEngines$Setup", name := "outputRoom", desc := "()I" } : Jvm.MethodName) ∈ tb := tb_of (lw_c3 (List.mem_of_getElem? (i := 97) (by decide +kernel))) rfl
theorem q732 : Cond.instanceMethod ({ cls := "PinEngines$Setup", name := "outputRoom", desc := "()I" } : Jvm.MethodName) ∈ tb := tb_of (lw_c3 (List.mem_of_getElem? (i := 98) (by decide +kernel))) rfl
theorem q733 : Cond.selects "PinEngines$Setup" ({ cls := "PinEngines$Setup", name := "outputRoom", desc := "()I" } : Jvm.MethodName) ({ cls := "PinEngines$Setup", name := "outputRoom", desc := "()I" } : Jvm.MethodName) ∈ tb := tb_of (lw_c3 (List.mem_of_getElem? (i := 99) (by decide +kernel))) rfl
set_option maxRecDepth 100000 in
theorem q734 : Cond.code ({ cls := "PinEngines$Setup", name := "outputRoom", desc := "()I" } : Jvm.MethodName) prog_10_method_3_code (1 : Nat) (Option.some Jvm.ClassFile.FieldType.int) ∈ tb := tb_of (lw_c3 (List.mem_of_getElem? (i := 100) rfl)) rfl
theorem q735 : Cond.methodLink "PinEngines$Machine" (67 : Nat) ({ cls := "PinEngines$Machine", name := "levels", desc := "()I" } : Jvm.MethodName) ∈ tb := tb_of (lw_c3 (List.mem_of_getElem? (i := 101) (by decide +kernel))) rfl
theorem q736 : Cond.instanceMethod ({ cls := "PinEngines$Machine", name := "levels", desc := "()I" } : Jvm.MethodName) ∈ tb := tb_of (lw_c3 (List.mem_of_getElem? (i := 102) (by decide +kernel))) rfl
theorem q737 : Cond.selects "PinEngines$Machine" ({ cls := "PinEngines$Machine", name := "levels", desc := "()I" } : Jvm.MethodName) ({ cls := "PinEngines$Machine", name := "levels", desc := "()I" } : Jvm.MethodName) ∈ tb := tb_of (lw_c3 (List.mem_of_getElem? (i := 103) (by decide +kernel))) rfl
set_option maxRecDepth 100000 in
theorem q738 : Cond.code ({ cls := "PinEngines$Machine", name := "levels", desc := "()I" } : Jvm.MethodName) prog_5_method_4_code (1 : Nat) (Option.some Jvm.ClassFile.FieldType.int) ∈ tb := tb_of (lw_c3 (List.mem_of_getElem? (i := 104) rfl)) rfl
theorem q739 : Cond.fieldLink "PinEngines" (9 : Nat) "PinEngines" "buffer" "[B" ∈ tb := tb_of (lw_c3 (List.mem_of_getElem? (i := 105) (by decide +kernel))) rfl
theorem q740 : Cond.fieldLink "PinEngines" (13 : Nat) "PinEngines" "buffered" "I" ∈ tb := tb_of (lw_c3 (List.mem_of_getElem? (i := 106) (by decide +kernel))) rfl
theorem q741 : Cond.fieldLink "PinEngines" (17 : Nat) "PinEngines" "errorPosition" "I" ∈ tb := tb_of (lw_c3 (List.mem_of_getElem? (i := 107) (by decide +kernel))) rfl
theorem q742 : Cond.fieldLink "PinEngines" (25 : Nat) "PinEngines" "tokens" "LPinEngines$Tokens;" ∈ tb := tb_of (lw_c3 (List.mem_of_getElem? (i := 108) (by decide +kernel))) rfl
theorem q743 : Cond.fieldLink "PinEngines" (32 : Nat) "PinEngines" "program" "LPinEngines$Program;" ∈ tb := tb_of (lw_c3 (List.mem_of_getElem? (i := 109) (by decide +kernel))) rfl
theorem q744 : Cond.fieldLink "PinEngines" (36 : Nat) "PinEngines" "spareProgram" "LPinEngines$Program;" ∈ tb := tb_of (lw_c3 (List.mem_of_getElem? (i := 110) (by decide +kernel))) rfl
theorem q745 : Cond.fieldLink "PinEngines" (44 : Nat) "PinEngines" "programReader" "LPinEngines$ProgramReader;" ∈ tb := tb_of (lw_c3 (List.mem_of_getElem? (i := 111) (by decide +kernel))) rfl
theorem q746 : Cond.fieldLink "PinEngines" (51 : Nat) "PinEngines" "machine" "LPinEngines$Machine;" ∈ tb := tb_of (lw_c3 (List.mem_of_getElem? (i := 112) (by decide +kernel))) rfl
theorem q747 : Cond.fieldLink "PinEngines" (55 : Nat) "PinEngines" "copy" "LPinEngines$Machine;" ∈ tb := tb_of (lw_c3 (List.mem_of_getElem? (i := 113) (by decide +kernel))) rfl
theorem q748 : Cond.fieldLink "PinEngines" (63 : Nat) "PinEngines" "simulator" "LPinEngines$Simulator;" ∈ tb := tb_of (lw_c3 (List.mem_of_getElem? (i := 114) (by decide +kernel))) rfl
theorem q749 : Cond.fieldLink "PinEngines" (72 : Nat) "PinEngines" "queryReader" "LPinEngines$QueryReader;" ∈ tb := tb_of (lw_c3 (List.mem_of_getElem? (i := 115) (by decide +kernel))) rfl
theorem q750 : Cond.fieldLink "PinEngines" (76 : Nat) "PinEngines" "snapshot" "LPinEngines$Machine;" ∈ tb := tb_of (lw_c3 (List.mem_of_getElem? (i := 116) (by decide +kernel))) rfl
theorem q751 : Cond.fieldLink "PinEngines" (79 : Nat) "PinEngines" "hasSnapshot" "Z" ∈ tb := tb_of (lw_c3 (List.mem_of_getElem? (i := 117) (by decide +kernel))) rfl
theorem q752 : Cond.fieldLink "PinEngines" (83 : Nat) "PinEngines" "past" "[LPinEngines$Machine;" ∈ tb := tb_of (lw_c3 (List.mem_of_getElem? (i := 118) (by decide +kernel))) rfl
theorem q753 : Cond.fieldLink "PinEngines" (87 : Nat) "PinEngines" "pastEnd" "I" ∈ tb := tb_of (lw_c3 (List.mem_of_getElem? (i := 119) (by decide +kernel))) rfl
theorem q754 : Cond.fieldLink "PinEngines" (90 : Nat) "PinEngines" "pastCount" "I" ∈ tb := tb_of (lw_c3 (List.mem_of_getElem? (i := 120) (by decide +kernel))) rfl
theorem q755 : Cond.fieldLink "PinEngines" (96 : Nat) "PinEngines" "formatted" "Ljava/lang/StringBuilder;" ∈ tb := tb_of (lw_c3 (List.mem_of_getElem? (i := 121) (by decide +kernel))) rfl
theorem q756 : Cond.laysFinal "PinEngines" "PinEngines" "buffer" "[B" ∈ tb := tb_of (lw_c3 (List.mem_of_getElem? (i := 122) (by decide +kernel))) rfl
theorem q758 : Cond.lays "PinEngines" "PinEngines" "buffered" "I" ∈ tb := tb_of (lw_c3 (List.mem_of_getElem? (i := 124) (by decide +kernel))) rfl
theorem q760 : Cond.lays "PinEngines" "PinEngines" "errorPosition" "I" ∈ tb := tb_of (lw_c3 (List.mem_of_getElem? (i := 126) (by decide +kernel))) rfl
theorem q762 : Cond.laysFinal "PinEngines" "PinEngines" "tokens" "LPinEngines$Tokens;" ∈ tb := tb_of (lw_c3 (List.mem_of_getElem? (i := 128) (by decide +kernel))) rfl
theorem q764 : Cond.lays "PinEngines" "PinEngines" "program" "LPinEngines$Program;" ∈ tb := tb_of (lw_c3 (List.mem_of_getElem? (i := 130) (by decide +kernel))) rfl
theorem q766 : Cond.lays "PinEngines" "PinEngines" "spareProgram" "LPinEngines$Program;" ∈ tb := tb_of (lw_c3 (List.mem_of_getElem? (i := 132) (by decide +kernel))) rfl
theorem q768 : Cond.laysFinal "PinEngines" "PinEngines" "programReader" "LPinEngines$ProgramReader;" ∈ tb := tb_of (lw_c3 (List.mem_of_getElem? (i := 134) (by decide +kernel))) rfl
theorem q770 : Cond.laysFinal "PinEngines" "PinEngines" "machine" "LPinEngines$Machine;" ∈ tb := tb_of (lw_c3 (List.mem_of_getElem? (i := 136) (by decide +kernel))) rfl
theorem q772 : Cond.laysFinal "PinEngines" "PinEngines" "copy" "LPinEngines$Machine;" ∈ tb := tb_of (lw_c3 (List.mem_of_getElem? (i := 138) (by decide +kernel))) rfl
theorem q774 : Cond.laysFinal "PinEngines" "PinEngines" "simulator" "LPinEngines$Simulator;" ∈ tb := tb_of (lw_c3 (List.mem_of_getElem? (i := 140) (by decide +kernel))) rfl
theorem q776 : Cond.laysFinal "PinEngines" "PinEngines" "queryReader" "LPinEngines$QueryReader;" ∈ tb := tb_of (lw_c3 (List.mem_of_getElem? (i := 142) (by decide +kernel))) rfl
theorem q778 : Cond.laysFinal "PinEngines" "PinEngines" "snapshot" "LPinEngines$Machine;" ∈ tb := tb_of (lw_c3 (List.mem_of_getElem? (i := 144) (by decide +kernel))) rfl
theorem q780 : Cond.lays "PinEngines" "PinEngines" "hasSnapshot" "Z" ∈ tb := tb_of (lw_c3 (List.mem_of_getElem? (i := 146) (by decide +kernel))) rfl
theorem q782 : Cond.laysFinal "PinEngines" "PinEngines" "past" "[LPinEngines$Machine;" ∈ tb := tb_of (lw_c3 (List.mem_of_getElem? (i := 148) (by decide +kernel))) rfl
theorem q784 : Cond.lays "PinEngines" "PinEngines" "pastEnd" "I" ∈ tb := tb_of (lw_c3 (List.mem_of_getElem? (i := 150) (by decide +kernel))) rfl
theorem q786 : Cond.lays "PinEngines" "PinEngines" "pastCount" "I" ∈ tb := tb_of (lw_c3 (List.mem_of_getElem? (i := 152) (by decide +kernel))) rfl
theorem q788 : Cond.laysFinal "PinEngines" "PinEngines" "formatted" "Ljava/lang/StringBuilder;" ∈ tb := tb_of (lw_c3 (List.mem_of_getElem? (i := 154) (by decide +kernel))) rfl
theorem q791 : Cond.methodLink "PinEnginesLaw" (127 : Nat) ({ cls := "PinEngines", name := "feed", desc := "(IIIII)I" } : Jvm.MethodName) ∈ tb := tb_of (lw_c3 (List.mem_of_getElem? (i := 157) (by decide +kernel))) rfl
theorem q795 : Cond.methodLink "PinEngines" (104 : Nat) ({ cls := "PinEngines", name := "appendBytes", desc := "(I)V" } : Jvm.MethodName) ∈ tb := tb_of (lw_c3 (List.mem_of_getElem? (i := 161) (by decide +kernel))) rfl
theorem q797 : Cond.instanceMethod ({ cls := "PinEngines", name := "appendBytes", desc := "(I)V" } : Jvm.MethodName) ∈ tb := tb_of (lw_c3 (List.mem_of_getElem? (i := 163) (by decide +kernel))) rfl
set_option maxRecDepth 100000 in
theorem q798 : Cond.code ({ cls := "PinEngines", name := "appendBytes", desc := "(I)V" } : Jvm.MethodName) prog_1_method_47_code (3 : Nat) (Option.none : Option Jvm.ClassFile.FieldType) ∈ tb := tb_of (lw_c3 (List.mem_of_getElem? (i := 164) rfl)) rfl
theorem q799 : Cond.methodLink "PinEnginesLaw" (142 : Nat) ({ cls := "PinEngines", name := "errorPosition", desc := "()I" } : Jvm.MethodName) ∈ tb := tb_of (lw_c3 (List.mem_of_getElem? (i := 165) (by decide +kernel))) rfl
theorem q803 : Cond.methodLink "PinEnginesLaw" (146 : Nat) ({ cls := "PinEngines", name := "instructionCount", desc := "()I" } : Jvm.MethodName) ∈ tb := tb_of (lw_c3 (List.mem_of_getElem? (i := 169) (by decide +kernel))) rfl
theorem q807 : Cond.methodLink "PinEnginesLaw" (150 : Nat) ({ cls := "PinEngines", name := "engines", desc := "()I" } : Jvm.MethodName) ∈ tb := tb_of (lw_c3 (List.mem_of_getElem? (i := 173) (by decide +kernel))) rfl
theorem q811 : Cond.methodLink "PinEngines" (127 : Nat) ({ cls := "PinEngines$Program", name := "engineMask", desc := "()I" } : Jvm.MethodName) ∈ tb := tb_of (lw_c3 (List.mem_of_getElem? (i := 177) (by decide +kernel))) rfl
theorem q812 : Cond.instanceMethod ({ cls := "PinEngines$Program", name := "engineMask", desc := "()I" } : Jvm.MethodName) ∈ tb := tb_of (lw_c3 (List.mem_of_getElem? (i := 178) (by decide +kernel))) rfl
theorem q813 : Cond.selects "PinEngines$Program" ({ cls := "PinEngines$Program", name := "engineMask", desc := "()I" } : Jvm.MethodName) ({ cls := "PinEngines$Program", name := "engineMask", desc := "()I" } : Jvm.MethodName) ∈ tb := tb_of (lw_c3 (List.mem_of_getElem? (i := 179) (by decide +kernel))) rfl
set_option maxRecDepth 100000 in
theorem q814 : Cond.code ({ cls := "PinEngines$Program", name := "engineMask", desc := "()I" } : Jvm.MethodName) prog_6_method_7_code (3 : Nat) (Option.some Jvm.ClassFile.FieldType.int) ∈ tb := tb_of (lw_c3 (List.mem_of_getElem? (i := 180) rfl)) rfl
theorem q815 : Cond.methodLink "PinEnginesLaw" (154 : Nat) ({ cls := "PinEngines", name := "clock", desc := "()I" } : Jvm.MethodName) ∈ tb := tb_of (lw_c3 (List.mem_of_getElem? (i := 181) (by decide +kernel))) rfl
theorem q819 : Cond.methodLink "PinEnginesLaw" (173 : Nat) ({ cls := "PinEngines", name := "portOwner", desc := "()I" } : Jvm.MethodName) ∈ tb := tb_of (lw_c3 (List.mem_of_getElem? (i := 185) (by decide +kernel))) rfl
theorem q823 : Cond.methodLink "PinEnginesLaw" (262 : Nat) ({ cls := "PinEngines", name := "formattedByte", desc := "(I)I" } : Jvm.MethodName) ∈ tb := tb_of (lw_c3 (List.mem_of_getElem? (i := 189) (by decide +kernel))) rfl
theorem q827 : Cond.methodLink "PinEngines" (311 : Nat) ({ cls := "java/lang/StringBuilder", name := "length", desc := "()I" } : Jvm.MethodName) ∈ tb := tb_of (lw_c3 (List.mem_of_getElem? (i := 193) (by decide +kernel))) rfl
theorem q828 : Cond.instanceMethod ({ cls := "java/lang/StringBuilder", name := "length", desc := "()I" } : Jvm.MethodName) ∈ tb := tb_of (lw_c3 (List.mem_of_getElem? (i := 194) (by decide +kernel))) rfl
theorem q829 : Cond.selects "java/lang/StringBuilder" ({ cls := "java/lang/StringBuilder", name := "length", desc := "()I" } : Jvm.MethodName) ({ cls := "java/lang/StringBuilder", name := "length", desc := "()I" } : Jvm.MethodName) ∈ tb := tb_of (lw_c3 (List.mem_of_getElem? (i := 195) (by decide +kernel))) rfl
set_option maxRecDepth 100000 in
theorem q830 : Cond.code ({ cls := "java/lang/StringBuilder", name := "length", desc := "()I" } : Jvm.MethodName) prog_30_method_93_code (1 : Nat) (Option.some Jvm.ClassFile.FieldType.int) ∈ tb := tb_of (lw_c3 (List.mem_of_getElem? (i := 196) rfl)) rfl
theorem q831 : Cond.methodLink "java/lang/StringBuilder" (343 : Nat) ({ cls := "java/lang/AbstractStringBuilder", name := "length", desc := "()I" } : Jvm.MethodName) ∈ tb := tb_of (lw_c3 (List.mem_of_getElem? (i := 197) (by decide +kernel))) rfl
theorem q832 : Cond.instanceMethod ({ cls := "java/lang/AbstractStringBuilder", name := "length", desc := "()I" } : Jvm.MethodName) ∈ tb := tb_of (lw_c3 (List.mem_of_getElem? (i := 198) (by decide +kernel))) rfl
set_option maxRecDepth 100000 in
theorem q833 : Cond.code ({ cls := "java/lang/AbstractStringBuilder", name := "length", desc := "()I" } : Jvm.MethodName) prog_17_method_6_code (1 : Nat) (Option.some Jvm.ClassFile.FieldType.int) ∈ tb := tb_of (lw_c3 (List.mem_of_getElem? (i := 199) rfl)) rfl
theorem q834 : Cond.methodLink "PinEngines" (314 : Nat) ({ cls := "java/lang/StringBuilder", name := "charAt", desc := "(I)C" } : Jvm.MethodName) ∈ tb := tb_of (lw_c3 (List.mem_of_getElem? (i := 200) (by decide +kernel))) rfl
theorem q835 : Cond.instanceMethod ({ cls := "java/lang/StringBuilder", name := "charAt", desc := "(I)C" } : Jvm.MethodName) ∈ tb := tb_of (lw_c3 (List.mem_of_getElem? (i := 201) (by decide +kernel))) rfl
theorem q836 : Cond.selects "java/lang/StringBuilder" ({ cls := "java/lang/StringBuilder", name := "charAt", desc := "(I)C" } : Jvm.MethodName) ({ cls := "java/lang/StringBuilder", name := "charAt", desc := "(I)C" } : Jvm.MethodName) ∈ tb := tb_of (lw_c3 (List.mem_of_getElem? (i := 202) (by decide +kernel))) rfl
set_option maxRecDepth 100000 in
theorem q837 : Cond.code ({ cls := "java/lang/StringBuilder", name := "charAt", desc := "(I)C" } : Jvm.MethodName) prog_30_method_88_code (2 : Nat) (Option.some Jvm.ClassFile.FieldType.char) ∈ tb := tb_of (lw_c3 (List.mem_of_getElem? (i := 203) rfl)) rfl
theorem q838 : Cond.methodLink "java/lang/StringBuilder" (329 : Nat) ({ cls := "java/lang/AbstractStringBuilder", name := "charAt", desc := "(I)C" } : Jvm.MethodName) ∈ tb := tb_of (lw_c3 (List.mem_of_getElem? (i := 204) (by decide +kernel))) rfl
theorem q839 : Cond.instanceMethod ({ cls := "java/lang/AbstractStringBuilder", name := "charAt", desc := "(I)C" } : Jvm.MethodName) ∈ tb := tb_of (lw_c3 (List.mem_of_getElem? (i := 205) (by decide +kernel))) rfl
set_option maxRecDepth 100000 in
theorem q840 : Cond.code ({ cls := "java/lang/AbstractStringBuilder", name := "charAt", desc := "(I)C" } : Jvm.MethodName) prog_17_method_14_code (5 : Nat) (Option.some Jvm.ClassFile.FieldType.char) ∈ tb := tb_of (lw_c3 (List.mem_of_getElem? (i := 206) rfl)) rfl
theorem q841 : Cond.methodLink "java/lang/AbstractStringBuilder" (138 : Nat) ({ cls := "java/lang/Math", name := "min", desc := "(II)I" } : Jvm.MethodName) ∈ tb := tb_of (lw_c3 (List.mem_of_getElem? (i := 207) (by decide +kernel))) rfl
theorem q842 : Cond.methodLink "java/lang/AbstractStringBuilder" (144 : Nat) ({ cls := "java/lang/String", name := "checkIndex", desc := "(II)V" } : Jvm.MethodName) ∈ tb := tb_of (lw_c3 (List.mem_of_getElem? (i := 208) (by decide +kernel))) rfl
theorem q843 : Cond.static ({ cls := "java/lang/String", name := "checkIndex", desc := "(II)V" } : Jvm.MethodName) ∈ tb := tb_of (lw_c3 (List.mem_of_getElem? (i := 209) (by decide +kernel))) rfl
set_option maxRecDepth 100000 in
theorem q844 : Cond.code ({ cls := "java/lang/String", name := "checkIndex", desc := "(II)V" } : Jvm.MethodName) prog_29_method_155_code (2 : Nat) (Option.none : Option Jvm.ClassFile.FieldType) ∈ tb := tb_of (lw_c3 (List.mem_of_getElem? (i := 210) rfl)) rfl
theorem q845 : Cond.fieldLink "java/lang/String" (1053 : Nat) "jdk/internal/util/Preconditions" "SIOOBE_FORMATTER" "Ljava/util/function/BiFunction;" ∈ tb := tb_of (lw_c3 (List.mem_of_getElem? (i := 211) (by decide +kernel))) rfl
theorem q847 : Cond.methodLink "java/lang/String" (1059 : Nat) ({ cls := "jdk/internal/util/Preconditions", name := "checkIndex", desc := "(IILjava/util/function/BiFunction;)I" } : Jvm.MethodName) ∈ tb := tb_of (lw_c3 (List.mem_of_getElem? (i := 213) (by decide +kernel))) rfl
theorem q848 : Cond.static ({ cls := "jdk/internal/util/Preconditions", name := "checkIndex", desc := "(IILjava/util/function/BiFunction;)I" } : Jvm.MethodName) ∈ tb := tb_of (lw_c3 (List.mem_of_getElem? (i := 214) (by decide +kernel))) rfl
set_option maxRecDepth 100000 in
theorem q849 : Cond.code ({ cls := "jdk/internal/util/Preconditions", name := "checkIndex", desc := "(IILjava/util/function/BiFunction;)I" } : Jvm.MethodName) prog_40_method_11_code (3 : Nat) (Option.some Jvm.ClassFile.FieldType.int) ∈ tb := tb_of (lw_c3 (List.mem_of_getElem? (i := 215) rfl)) rfl
theorem q850 : Cond.methodLink "java/lang/AbstractStringBuilder" (148 : Nat) ({ cls := "java/lang/StringUTF16", name := "getChar", desc := "([BI)C" } : Jvm.MethodName) ∈ tb := tb_of (lw_c3 (List.mem_of_getElem? (i := 216) (by decide +kernel))) rfl
theorem q862 : Cond.methodLink "PinEnginesLaw" (266 : Nat) ({ cls := "PinEngines", name := "undoCount", desc := "()I" } : Jvm.MethodName) ∈ tb := tb_of (lw_c3 (List.mem_of_getElem? (i := 228) (by decide +kernel))) rfl
theorem q866 : Cond.methodLink "PinEnginesLaw" (270 : Nat) ({ cls := "PinEngines", name := "undo", desc := "()I" } : Jvm.MethodName) ∈ tb := tb_of (lw_c3 (List.mem_of_getElem? (i := 232) (by decide +kernel))) rfl
theorem q870 : Cond.methodLink "PinEngines" (274 : Nat) ({ cls := "PinEngines$Machine", name := "copyFrom", desc := "(LPinEngines$Machine;)V" } : Jvm.MethodName) ∈ tb := tb_of (lw_c3 (List.mem_of_getElem? (i := 236) (by decide +kernel))) rfl
theorem q871 : Cond.instanceMethod ({ cls := "PinEngines$Machine", name := "copyFrom", desc := "(LPinEngines$Machine;)V" } : Jvm.MethodName) ∈ tb := tb_of (lw_c3 (List.mem_of_getElem? (i := 237) (by decide +kernel))) rfl
theorem q872 : Cond.selects "PinEngines$Machine" ({ cls := "PinEngines$Machine", name := "copyFrom", desc := "(LPinEngines$Machine;)V" } : Jvm.MethodName) ({ cls := "PinEngines$Machine", name := "copyFrom", desc := "(LPinEngines$Machine;)V" } : Jvm.MethodName) ∈ tb := tb_of (lw_c3 (List.mem_of_getElem? (i := 238) (by decide +kernel))) rfl
set_option maxRecDepth 100000 in
theorem q873 : Cond.code ({ cls := "PinEngines$Machine", name := "copyFrom", desc := "(LPinEngines$Machine;)V" } : Jvm.MethodName) prog_5_method_3_code (3 : Nat) (Option.none : Option Jvm.ClassFile.FieldType) ∈ tb := tb_of (lw_c3 (List.mem_of_getElem? (i := 239) rfl)) rfl
theorem q874 : Cond.methodLink "PinEngines$Machine" (74 : Nat) ({ cls := "java/lang/System", name := "arraycopy", desc := "(Ljava/lang/Object;ILjava/lang/Object;II)V" } : Jvm.MethodName) ∈ tb := tb_of (lw_c4 (List.mem_of_getElem? (i := 0) (by decide +kernel))) rfl
theorem q875 : Cond.static ({ cls := "java/lang/System", name := "arraycopy", desc := "(Ljava/lang/Object;ILjava/lang/Object;II)V" } : Jvm.MethodName) ∈ tb := tb_of (lw_c4 (List.mem_of_getElem? (i := 1) (by decide +kernel))) rfl
theorem q876 : Cond.native ({ cls := "java/lang/System", name := "arraycopy", desc := "(Ljava/lang/Object;ILjava/lang/Object;II)V" } : Jvm.MethodName) ∈ tb := tb_of (lw_c4 (List.mem_of_getElem? (i := 2) (by decide +kernel))) rfl
theorem q877 : Cond.methodLink "PinEngines$Machine" (80 : Nat) ({ cls := "PinEngines$Engine", name := "copyFrom", desc := "(LPinEngines$Engine;)V" } : Jvm.MethodName) ∈ tb := tb_of (lw_c4 (List.mem_of_getElem? (i := 3) (by decide +kernel))) rfl
theorem q878 : Cond.instanceMethod ({ cls := "PinEngines$Engine", name := "copyFrom", desc := "(LPinEngines$Engine;)V" } : Jvm.MethodName) ∈ tb := tb_of (lw_c4 (List.mem_of_getElem? (i := 4) (by decide +kernel))) rfl
theorem q879 : Cond.selects "PinEngines$Engine" ({ cls := "PinEngines$Engine", name := "copyFrom", desc := "(LPinEngines$Engine;)V" } : Jvm.MethodName) ({ cls := "PinEngines$Engine", name := "copyFrom", desc := "(LPinEngines$Engine;)V" } : Jvm.MethodName) ∈ tb := tb_of (lw_c4 (List.mem_of_getElem? (i := 5) (by decide +kernel))) rfl
set_option maxRecDepth 100000 in
theorem q880 : Cond.code ({ cls := "PinEngines$Engine", name := "copyFrom", desc := "(LPinEngines$Engine;)V" } : Jvm.MethodName) prog_3_method_4_code (2 : Nat) (Option.none : Option Jvm.ClassFile.FieldType) ∈ tb := tb_of (lw_c4 (List.mem_of_getElem? (i := 6) rfl)) rfl
theorem q881 : Cond.methodLink "PinEngines$Engine" (83 : Nat) ({ cls := "PinEngines$Queue", name := "copyFrom", desc := "(LPinEngines$Queue;)V" } : Jvm.MethodName) ∈ tb := tb_of (lw_c4 (List.mem_of_getElem? (i := 7) (by decide +kernel))) rfl
theorem q882 : Cond.instanceMethod ({ cls := "PinEngines$Queue", name := "copyFrom", desc := "(LPinEngines$Queue;)V" } : Jvm.MethodName) ∈ tb := tb_of (lw_c4 (List.mem_of_getElem? (i := 8) (by decide +kernel))) rfl
theorem q883 : Cond.selects "PinEngines$Queue" ({ cls := "PinEngines$Queue", name := "copyFrom", desc := "(LPinEngines$Queue;)V" } : Jvm.MethodName) ({ cls := "PinEngines$Queue", name := "copyFrom", desc := "(LPinEngines$Queue;)V" } : Jvm.MethodName) ∈ tb := tb_of (lw_c4 (List.mem_of_getElem? (i := 9) (by decide +kernel))) rfl
set_option maxRecDepth 100000 in
theorem q884 : Cond.code ({ cls := "PinEngines$Queue", name := "copyFrom", desc := "(LPinEngines$Queue;)V" } : Jvm.MethodName) prog_9_method_3_code (2 : Nat) (Option.none : Option Jvm.ClassFile.FieldType) ∈ tb := tb_of (lw_c4 (List.mem_of_getElem? (i := 10) rfl)) rfl
theorem q885 : Cond.methodLink "PinEngines$Queue" (34 : Nat) ({ cls := "java/lang/System", name := "arraycopy", desc := "(Ljava/lang/Object;ILjava/lang/Object;II)V" } : Jvm.MethodName) ∈ tb := tb_of (lw_c4 (List.mem_of_getElem? (i := 11) (by decide +kernel))) rfl
theorem q886 : Cond.methodLink "PinEngines$Engine" (87 : Nat) ({ cls := "java/lang/System", name := "arraycopy", desc := "(Ljava/lang/Object;ILjava/lang/Object;II)V" } : Jvm.MethodName) ∈ tb := tb_of (lw_c4 (List.mem_of_getElem? (i := 12) (by decide +kernel))) rfl
theorem q887 : Cond.methodLink "PinEnginesLaw" (274 : Nat) ({ cls := "PinEngines", name := "saveSnapshot", desc := "()V" } : Jvm.MethodName) ∈ tb := tb_of (lw_c4 (List.mem_of_getElem? (i := 13) (by decide +kernel))) rfl
theorem q891 : Cond.methodLink "PinEnginesLaw" (278 : Nat) ({ cls := "PinEngines", name := "restoreSnapshot", desc := "()Z" } : Jvm.MethodName) ∈ tb := tb_of (lw_c4 (List.mem_of_getElem? (i := 17) (by decide +kernel))) rfl
theorem q895 : Cond.methodLink "PinEnginesLaw" (132 : Nat) ({ cls := "PinEnginesLaw", name := "load", desc := "(LPinEngines;I[J)I" } : Jvm.MethodName) ∈ tb := tb_of (lw_c4 (List.mem_of_getElem? (i := 21) (by decide +kernel))) rfl
theorem q898 : Cond.classLink "PinEnginesLaw" (13 : Nat) "java/lang/IllegalArgumentException" ∈ tb := tb_of (lw_c4 (List.mem_of_getElem? (i := 24) (by decide +kernel))) rfl
theorem q899 : Cond.methodLink "PinEnginesLaw" (7 : Nat) ({ cls := "PinEngines", name := "load", desc := "(I)I" } : Jvm.MethodName) ∈ tb := tb_of (lw_c4 (List.mem_of_getElem? (i := 25) (by decide +kernel))) rfl
theorem q903 : Cond.classLink "PinEngines" (108 : Nat) "java/lang/IllegalArgumentException" ∈ tb := tb_of (lw_c4 (List.mem_of_getElem? (i := 29) (by decide +kernel))) rfl
theorem q904 : Cond.instantiable "java/lang/IllegalArgumentException" (6 : Nat) ∈ tb := tb_of (lw_c4 (List.mem_of_getElem? (i := 30) (by decide +kernel))) rfl
theorem q926 : Cond.instanceMethod ({ cls := "java/lang/Throwable", name := "<init>", desc := "()V" } : Jvm.MethodName) ∈ tb := tb_of (lw_c4 (List.mem_of_getElem? (i := 52) (by decide +kernel))) rfl
set_option maxRecDepth 100000 in
theorem q927 : Cond.code ({ cls := "java/lang/Throwable", name := "<init>", desc := "()V" } : Jvm.MethodName) prog_34_method_1_code (1 : Nat) (Option.none : Option Jvm.ClassFile.FieldType) ∈ tb := tb_of (lw_c4 (List.mem_of_getElem? (i := 53) rfl)) rfl
theorem q928 : Cond.methodLink "java/lang/Throwable" (1 : Nat) ({ cls := "java/lang/Object", name := "<init>", desc := "()V" } : Jvm.MethodName) ∈ tb := tb_of (lw_c4 (List.mem_of_getElem? (i := 54) (by decide +kernel))) rfl
theorem q941 : Cond.instantiable "java/lang/Throwable" (6 : Nat) ∈ tb := tb_of (lw_c4 (List.mem_of_getElem? (i := 67) (by decide +kernel))) rfl
theorem q942 : Cond.native ({ cls := "java/lang/Throwable", name := "fillInStackTrace", desc := "(I)Ljava/lang/Throwable;" } : Jvm.MethodName) ∈ tb := tb_of (lw_c4 (List.mem_of_getElem? (i := 68) (by decide +kernel))) rfl
theorem q943 : Cond.methodLink "PinEngines" (110 : Nat) ({ cls := "java/lang/IllegalArgumentException", name := "<init>", desc := "()V" } : Jvm.MethodName) ∈ tb := tb_of (lw_c4 (List.mem_of_getElem? (i := 69) (by decide +kernel))) rfl
theorem q944 : Cond.instanceMethod ({ cls := "java/lang/IllegalArgumentException", name := "<init>", desc := "()V" } : Jvm.MethodName) ∈ tb := tb_of (lw_c4 (List.mem_of_getElem? (i := 70) (by decide +kernel))) rfl
set_option maxRecDepth 100000 in
theorem q945 : Cond.code ({ cls := "java/lang/IllegalArgumentException", name := "<init>", desc := "()V" } : Jvm.MethodName) prog_24_method_1_code (1 : Nat) (Option.none : Option Jvm.ClassFile.FieldType) ∈ tb := tb_of (lw_c4 (List.mem_of_getElem? (i := 71) rfl)) rfl
theorem q946 : Cond.methodLink "java/lang/IllegalArgumentException" (1 : Nat) ({ cls := "java/lang/RuntimeException", name := "<init>", desc := "()V" } : Jvm.MethodName) ∈ tb := tb_of (lw_c4 (List.mem_of_getElem? (i := 72) (by decide +kernel))) rfl
theorem q947 : Cond.instanceMethod ({ cls := "java/lang/RuntimeException", name := "<init>", desc := "()V" } : Jvm.MethodName) ∈ tb := tb_of (lw_c4 (List.mem_of_getElem? (i := 73) (by decide +kernel))) rfl
set_option maxRecDepth 100000 in
theorem q948 : Cond.code ({ cls := "java/lang/RuntimeException", name := "<init>", desc := "()V" } : Jvm.MethodName) prog_28_method_1_code (1 : Nat) (Option.none : Option Jvm.ClassFile.FieldType) ∈ tb := tb_of (lw_c4 (List.mem_of_getElem? (i := 74) rfl)) rfl
theorem q949 : Cond.methodLink "java/lang/RuntimeException" (1 : Nat) ({ cls := "java/lang/Exception", name := "<init>", desc := "()V" } : Jvm.MethodName) ∈ tb := tb_of (lw_c4 (List.mem_of_getElem? (i := 75) (by decide +kernel))) rfl
theorem q950 : Cond.instanceMethod ({ cls := "java/lang/Exception", name := "<init>", desc := "()V" } : Jvm.MethodName) ∈ tb := tb_of (lw_c4 (List.mem_of_getElem? (i := 76) (by decide +kernel))) rfl
set_option maxRecDepth 100000 in
theorem q951 : Cond.code ({ cls := "java/lang/Exception", name := "<init>", desc := "()V" } : Jvm.MethodName) prog_23_method_1_code (1 : Nat) (Option.none : Option Jvm.ClassFile.FieldType) ∈ tb := tb_of (lw_c4 (List.mem_of_getElem? (i := 77) rfl)) rfl
theorem q952 : Cond.methodLink "java/lang/Exception" (1 : Nat) ({ cls := "java/lang/Throwable", name := "<init>", desc := "()V" } : Jvm.MethodName) ∈ tb := tb_of (lw_c4 (List.mem_of_getElem? (i := 78) (by decide +kernel))) rfl
theorem q966 : Cond.methodLink "PinEngines" (111 : Nat) ({ cls := "PinEngines$Tokens", name := "scan", desc := "(I)V" } : Jvm.MethodName) ∈ tb := tb_of (lw_c4 (List.mem_of_getElem? (i := 92) (by decide +kernel))) rfl
theorem q967 : Cond.instanceMethod ({ cls := "PinEngines$Tokens", name := "scan", desc := "(I)V" } : Jvm.MethodName) ∈ tb := tb_of (lw_c4 (List.mem_of_getElem? (i := 93) (by decide +kernel))) rfl
theorem q968 : Cond.selects "PinEngines$Tokens" ({ cls := "PinEngines$Tokens", name := "scan", desc := "(I)V" } : Jvm.MethodName) ({ cls := "PinEngines$Tokens", name := "scan", desc := "(I)V" } : Jvm.MethodName) ∈ tb := tb_of (lw_c4 (List.mem_of_getElem? (i := 94) (by decide +kernel))) rfl
set_option maxRecDepth 100000 in
theorem q969 : Cond.code ({ cls := "PinEngines$Tokens", name := "scan", desc := "(I)V" } : Jvm.MethodName) prog_13_method_2_code (5 : Nat) (Option.none : Option Jvm.ClassFile.FieldType) ∈ tb := tb_of (lw_c4 (List.mem_of_getElem? (i := 95) rfl)) rfl
theorem q970 : Cond.methodLink "PinEngines$Tokens" (48 : Nat) ({ cls := "java/lang/Math", name := "min", desc := "(II)I" } : Jvm.MethodName) ∈ tb := tb_of (lw_c4 (List.mem_of_getElem? (i := 96) (by decide +kernel))) rfl
theorem q971 : Cond.methodLink "PinEngines$Tokens" (54 : Nat) ({ cls := "PinEngines$Tokens", name := "scanToken", desc := "(II)I" } : Jvm.MethodName) ∈ tb := tb_of (lw_c4 (List.mem_of_getElem? (i := 97) (by decide +kernel))) rfl
theorem q973 : Cond.instanceMethod ({ cls := "PinEngines$Tokens", name := "scanToken", desc := "(II)I" } : Jvm.MethodName) ∈ tb := tb_of (lw_c4 (List.mem_of_getElem? (i := 99) (by decide +kernel))) rfl
set_option maxRecDepth 100000 in
theorem q974 : Cond.code ({ cls := "PinEngines$Tokens", name := "scanToken", desc := "(II)I" } : Jvm.MethodName) prog_13_method_16_code (6 : Nat) (Option.some Jvm.ClassFile.FieldType.int) ∈ tb := tb_of (lw_c4 (List.mem_of_getElem? (i := 100) rfl)) rfl
theorem q975 : Cond.fieldLink "PinEngines$Tokens" (63 : Nat) "PinEngines$Symbol" "NUMBER" "LPinEngines$Symbol;" ∈ tb := tb_of (lw_c4 (List.mem_of_getElem? (i := 101) (by decide +kernel))) rfl
theorem q977 : Cond.methodLink "PinEngines$Tokens" (88 : Nat) ({ cls := "PinEngines$Tokens", name := "isDigit", desc := "(B)Z" } : Jvm.MethodName) ∈ tb := tb_of (lw_c4 (List.mem_of_getElem? (i := 103) (by decide +kernel))) rfl
theorem q978 : Cond.static ({ cls := "PinEngines$Tokens", name := "isDigit", desc := "(B)Z" } : Jvm.MethodName) ∈ tb := tb_of (lw_c4 (List.mem_of_getElem? (i := 104) (by decide +kernel))) rfl
set_option maxRecDepth 100000 in
theorem q979 : Cond.code ({ cls := "PinEngines$Tokens", name := "isDigit", desc := "(B)Z" } : Jvm.MethodName) prog_13_method_18_code (1 : Nat) (Option.some Jvm.ClassFile.FieldType.boolean) ∈ tb := tb_of (lw_c4 (List.mem_of_getElem? (i := 105) rfl)) rfl
theorem q980 : Cond.constant "PinEngines$Tokens" (92 : Nat) (100000 : Int32) ∈ tb := tb_of (lw_c4 (List.mem_of_getElem? (i := 106) (by decide +kernel))) rfl
theorem q981 : Cond.methodLink "PinEngines$Tokens" (93 : Nat) ({ cls := "PinEngines$Tokens", name := "isLetter", desc := "(B)Z" } : Jvm.MethodName) ∈ tb := tb_of (lw_c4 (List.mem_of_getElem? (i := 107) (by decide +kernel))) rfl
theorem q982 : Cond.static ({ cls := "PinEngines$Tokens", name := "isLetter", desc := "(B)Z" } : Jvm.MethodName) ∈ tb := tb_of (lw_c4 (List.mem_of_getElem? (i := 108) (by decide +kernel))) rfl
set_option maxRecDepth 100000 in
theorem q983 : Cond.code ({ cls := "PinEngines$Tokens", name := "isLetter", desc := "(B)Z" } : Jvm.MethodName) prog_13_method_17_code (1 : Nat) (Option.some Jvm.ClassFile.FieldType.boolean) ∈ tb := tb_of (lw_c4 (List.mem_of_getElem? (i := 109) rfl)) rfl
theorem q984 : Cond.fieldLink "PinEngines$Tokens" (96 : Nat) "PinEngines$Symbol" "NAME" "LPinEngines$Symbol;" ∈ tb := tb_of (lw_c4 (List.mem_of_getElem? (i := 110) (by decide +kernel))) rfl
theorem q986 : Cond.methodLink "PinEngines$Tokens" (99 : Nat) ({ cls := "PinEngines$Symbol", name := "spelled", desc := "([BIILPinEngines$Symbol;)LPinEngines$Symbol;" } : Jvm.MethodName) ∈ tb := tb_of (lw_c4 (List.mem_of_getElem? (i := 112) (by decide +kernel))) rfl
theorem q987 : Cond.static ({ cls := "PinEngines$Symbol", name := "spelled", desc := "([BIILPinEngines$Symbol;)LPinEngines$Symbol;" } : Jvm.MethodName) ∈ tb := tb_of (lw_c4 (List.mem_of_getElem? (i := 113) (by decide +kernel))) rfl
set_option maxRecDepth 100000 in
theorem q988 : Cond.code ({ cls := "PinEngines$Symbol", name := "spelled", desc := "([BIILPinEngines$Symbol;)LPinEngines$Symbol;" } : Jvm.MethodName) prog_12_method_4_code (5 : Nat) (Option.some (Jvm.ClassFile.FieldType.object "PinEngines$Symbol")) ∈ tb := tb_of (lw_c4 (List.mem_of_getElem? (i := 114) rfl)) rfl
theorem q989 : Cond.fieldLink "PinEngines$Symbol" (255 : Nat) "PinEngines$Symbol" "ALL" "[LPinEngines$Symbol;" ∈ tb := tb_of (lw_c4 (List.mem_of_getElem? (i := 115) (by decide +kernel))) rfl
theorem q991 : Cond.methodLink "PinEngines$Symbol" (258 : Nat) ({ cls := "PinEngines$Symbol", name := "isSpelled", desc := "([BII)Z" } : Jvm.MethodName) ∈ tb := tb_of (lw_c4 (List.mem_of_getElem? (i := 117) (by decide +kernel))) rfl
theorem q993 : Cond.instanceMethod ({ cls := "PinEngines$Symbol", name := "isSpelled", desc := "([BII)Z" } : Jvm.MethodName) ∈ tb := tb_of (lw_c4 (List.mem_of_getElem? (i := 119) (by decide +kernel))) rfl
theorem q994 : Cond.instantiable "PinEngines$Symbol" (5 : Nat) ∈ tb := tb_of (lw_c4 (List.mem_of_getElem? (i := 120) (by decide +kernel))) rfl
set_option maxRecDepth 100000 in
theorem q995 : Cond.code ({ cls := "PinEngines$Symbol", name := "isSpelled", desc := "([BII)Z" } : Jvm.MethodName) prog_12_method_5_code (5 : Nat) (Option.some Jvm.ClassFile.FieldType.boolean) ∈ tb := tb_of (lw_c4 (List.mem_of_getElem? (i := 121) rfl)) rfl
theorem q996 : Cond.methodLink "PinEngines$Symbol" (262 : Nat) ({ cls := "java/lang/String", name := "length", desc := "()I" } : Jvm.MethodName) ∈ tb := tb_of (lw_c4 (List.mem_of_getElem? (i := 122) (by decide +kernel))) rfl
theorem q997 : Cond.instanceMethod ({ cls := "java/lang/String", name := "length", desc := "()I" } : Jvm.MethodName) ∈ tb := tb_of (lw_c4 (List.mem_of_getElem? (i := 123) (by decide +kernel))) rfl
theorem q998 : Cond.selects "java/lang/String" ({ cls := "java/lang/String", name := "length", desc := "()I" } : Jvm.MethodName) ({ cls := "java/lang/String", name := "length", desc := "()I" } : Jvm.MethodName) ∈ tb := tb_of (lw_c4 (List.mem_of_getElem? (i := 124) (by decide +kernel))) rfl
set_option maxRecDepth 100000 in
theorem q999 : Cond.code ({ cls := "java/lang/String", name := "length", desc := "()I" } : Jvm.MethodName) prog_29_method_54_code (1 : Nat) (Option.some Jvm.ClassFile.FieldType.int) ∈ tb := tb_of (lw_c4 (List.mem_of_getElem? (i := 125) rfl)) rfl
theorem q1000 : Cond.methodLink "java/lang/String" (335 : Nat) ({ cls := "java/lang/String", name := "coder", desc := "()B" } : Jvm.MethodName) ∈ tb := tb_of (lw_c4 (List.mem_of_getElem? (i := 126) (by decide +kernel))) rfl
theorem q1001 : Cond.instanceMethod ({ cls := "java/lang/String", name := "coder", desc := "()B" } : Jvm.MethodName) ∈ tb := tb_of (lw_c4 (List.mem_of_getElem? (i := 127) (by decide +kernel))) rfl
theorem q1002 : Cond.selects "java/lang/String" ({ cls := "java/lang/String", name := "coder", desc := "()B" } : Jvm.MethodName) ({ cls := "java/lang/String", name := "coder", desc := "()B" } : Jvm.MethodName) ∈ tb := tb_of (lw_c4 (List.mem_of_getElem? (i := 128) (by decide +kernel))) rfl
set_option maxRecDepth 100000 in
theorem q1003 : Cond.code ({ cls := "java/lang/String", name := "coder", desc := "()B" } : Jvm.MethodName) prog_29_method_152_code (1 : Nat) (Option.some Jvm.ClassFile.FieldType.byte) ∈ tb := tb_of (lw_c4 (List.mem_of_getElem? (i := 129) rfl)) rfl
theorem q1004 : Cond.fieldLink "java/lang/String" (38 : Nat) "java/lang/String" "COMPACT_STRINGS" "Z" ∈ tb := tb_of (lw_c4 (List.mem_of_getElem? (i := 130) (by decide +kernel))) rfl
theorem q1005 : Cond.methodLink "PinEngines$Symbol" (268 : Nat) ({ cls := "java/lang/String", name := "charAt", desc := "(I)C" } : Jvm.MethodName) ∈ tb := tb_of (lw_c4 (List.mem_of_getElem? (i := 131) (by decide +kernel))) rfl
theorem q1006 : Cond.instanceMethod ({ cls := "java/lang/String", name := "charAt", desc := "(I)C" } : Jvm.MethodName) ∈ tb := tb_of (lw_c4 (List.mem_of_getElem? (i := 132) (by decide +kernel))) rfl
theorem q1007 : Cond.selects "java/lang/String" ({ cls := "java/lang/String", name := "charAt", desc := "(I)C" } : Jvm.MethodName) ({ cls := "java/lang/String", name := "charAt", desc := "(I)C" } : Jvm.MethodName) ∈ tb := tb_of (lw_c4 (List.mem_of_getElem? (i := 133) (by decide +kernel))) rfl
set_option maxRecDepth 100000 in
theorem q1008 : Cond.code ({ cls := "java/lang/String", name := "charAt", desc := "(I)C" } : Jvm.MethodName) prog_29_method_56_code (2 : Nat) (Option.some Jvm.ClassFile.FieldType.char) ∈ tb := tb_of (lw_c4 (List.mem_of_getElem? (i := 134) rfl)) rfl
theorem q1009 : Cond.methodLink "java/lang/String" (492 : Nat) ({ cls := "java/lang/String", name := "isLatin1", desc := "()Z" } : Jvm.MethodName) ∈ tb := tb_of (lw_c4 (List.mem_of_getElem? (i := 135) (by decide +kernel))) rfl
theorem q1010 : Cond.instanceMethod ({ cls := "java/lang/String", name := "isLatin1", desc := "()Z" } : Jvm.MethodName) ∈ tb := tb_of (lw_c4 (List.mem_of_getElem? (i := 136) (by decide +kernel))) rfl
theorem q1011 : Cond.selects "java/lang/String" ({ cls := "java/lang/String", name := "isLatin1", desc := "()Z" } : Jvm.MethodName) ({ cls := "java/lang/String", name := "isLatin1", desc := "()Z" } : Jvm.MethodName) ∈ tb := tb_of (lw_c4 (List.mem_of_getElem? (i := 137) (by decide +kernel))) rfl
set_option maxRecDepth 100000 in
theorem q1012 : Cond.code ({ cls := "java/lang/String", name := "isLatin1", desc := "()Z" } : Jvm.MethodName) prog_29_method_154_code (1 : Nat) (Option.some Jvm.ClassFile.FieldType.boolean) ∈ tb := tb_of (lw_c4 (List.mem_of_getElem? (i := 138) rfl)) rfl
theorem q1013 : Cond.methodLink "java/lang/String" (495 : Nat) ({ cls := "java/lang/StringLatin1", name := "charAt", desc := "([BI)C" } : Jvm.MethodName) ∈ tb := tb_of (lw_c4 (List.mem_of_getElem? (i := 139) (by decide +kernel))) rfl
theorem q1014 : Cond.static ({ cls := "java/lang/StringLatin1", name := "charAt", desc := "([BI)C" } : Jvm.MethodName) ∈ tb := tb_of (lw_c4 (List.mem_of_getElem? (i := 140) (by decide +kernel))) rfl
set_option maxRecDepth 100000 in
theorem q1015 : Cond.code ({ cls := "java/lang/StringLatin1", name := "charAt", desc := "([BI)C" } : Jvm.MethodName) prog_31_method_2_code (2 : Nat) (Option.some Jvm.ClassFile.FieldType.char) ∈ tb := tb_of (lw_c4 (List.mem_of_getElem? (i := 141) rfl)) rfl
theorem q1016 : Cond.methodLink "java/lang/StringLatin1" (9 : Nat) ({ cls := "java/lang/String", name := "checkIndex", desc := "(II)V" } : Jvm.MethodName) ∈ tb := tb_of (lw_c4 (List.mem_of_getElem? (i := 142) (by decide +kernel))) rfl
theorem q1025 : Cond.fieldLink "PinEngines$Tokens" (103 : Nat) "PinEngines$Symbol" "STRANGE" "LPinEngines$Symbol;" ∈ tb := tb_of (lw_c4 (List.mem_of_getElem? (i := 151) (by decide +kernel))) rfl
theorem q1027 : Cond.methodLink "PinEngines$Tokens" (57 : Nat) ({ cls := "PinEngines$Tokens", name := "rewind", desc := "()V" } : Jvm.MethodName) ∈ tb := tb_of (lw_c4 (List.mem_of_getElem? (i := 153) (by decide +kernel))) rfl
theorem q1028 : Cond.instanceMethod ({ cls := "PinEngines$Tokens", name := "rewind", desc := "()V" } : Jvm.MethodName) ∈ tb := tb_of (lw_c4 (List.mem_of_getElem? (i := 154) (by decide +kernel))) rfl
theorem q1029 : Cond.selects "PinEngines$Tokens" ({ cls := "PinEngines$Tokens", name := "rewind", desc := "()V" } : Jvm.MethodName) ({ cls := "PinEngines$Tokens", name := "rewind", desc := "()V" } : Jvm.MethodName) ∈ tb := tb_of (lw_c4 (List.mem_of_getElem? (i := 155) (by decide +kernel))) rfl
set_option maxRecDepth 100000 in
theorem q1030 : Cond.code ({ cls := "PinEngines$Tokens", name := "rewind", desc := "()V" } : Jvm.MethodName) prog_13_method_3_code (1 : Nat) (Option.none : Option Jvm.ClassFile.FieldType) ∈ tb := tb_of (lw_c4 (List.mem_of_getElem? (i := 156) rfl)) rfl
theorem q1031 : Cond.methodLink "PinEngines" (114 : Nat) ({ cls := "PinEngines$ProgramReader", name := "readProgram", desc := "(LPinEngines$Program;)V" } : Jvm.MethodName) ∈ tb := tb_of (lw_c4 (List.mem_of_getElem? (i := 157) (by decide +kernel))) rfl
theorem q1032 : Cond.instanceMethod ({ cls := "PinEngines$ProgramReader", name := "readProgram", desc := "(LPinEngines$Program;)V" } : Jvm.MethodName) ∈ tb := tb_of (lw_c4 (List.mem_of_getElem? (i := 158) (by decide +kernel))) rfl
theorem q1033 : Cond.selects "PinEngines$ProgramReader" ({ cls := "PinEngines$ProgramReader", name := "readProgram", desc := "(LPinEngines$Program;)V" } : Jvm.MethodName) ({ cls := "PinEngines$ProgramReader", name := "readProgram", desc := "(LPinEngines$Program;)V" } : Jvm.MethodName) ∈ tb := tb_of (lw_c4 (List.mem_of_getElem? (i := 159) (by decide +kernel))) rfl
set_option maxRecDepth 100000 in
theorem q1034 : Cond.code ({ cls := "PinEngines$ProgramReader", name := "readProgram", desc := "(LPinEngines$Program;)V" } : Jvm.MethodName) prog_7_method_2_code (2 : Nat) (Option.none : Option Jvm.ClassFile.FieldType) ∈ tb := tb_of (lw_c4 (List.mem_of_getElem? (i := 160) rfl)) rfl
theorem q1035 : Cond.methodLink "PinEngines$ProgramReader" (34 : Nat) ({ cls := "PinEngines$ProgramReader", name := "readClauses", desc := "()V" } : Jvm.MethodName) ∈ tb := tb_of (lw_c4 (List.mem_of_getElem? (i := 161) (by decide +kernel))) rfl
theorem q1037 : Cond.instanceMethod ({ cls := "PinEngines$ProgramReader", name := "readClauses", desc := "()V" } : Jvm.MethodName) ∈ tb := tb_of (lw_c4 (List.mem_of_getElem? (i := 163) (by decide +kernel))) rfl
set_option maxRecDepth 100000 in
theorem q1038 : Cond.code ({ cls := "PinEngines$ProgramReader", name := "readClauses", desc := "()V" } : Jvm.MethodName) prog_7_method_3_code (2 : Nat) (Option.none : Option Jvm.ClassFile.FieldType) ∈ tb := tb_of (lw_c4 (List.mem_of_getElem? (i := 164) rfl)) rfl
theorem q1039 : Cond.methodLink "PinEngines$ProgramReader" (42 : Nat) ({ cls := "PinEngines$Program", name := "clear", desc := "()V" } : Jvm.MethodName) ∈ tb := tb_of (lw_c4 (List.mem_of_getElem? (i := 165) (by decide +kernel))) rfl
theorem q1040 : Cond.instanceMethod ({ cls := "PinEngines$Program", name := "clear", desc := "()V" } : Jvm.MethodName) ∈ tb := tb_of (lw_c4 (List.mem_of_getElem? (i := 166) (by decide +kernel))) rfl
theorem q1041 : Cond.selects "PinEngines$Program" ({ cls := "PinEngines$Program", name := "clear", desc := "()V" } : Jvm.MethodName) ({ cls := "PinEngines$Program", name := "clear", desc := "()V" } : Jvm.MethodName) ∈ tb := tb_of (lw_c4 (List.mem_of_getElem? (i := 167) (by decide +kernel))) rfl
set_option maxRecDepth 100000 in
theorem q1042 : Cond.code ({ cls := "PinEngines$Program", name := "clear", desc := "()V" } : Jvm.MethodName) prog_6_method_2_code (2 : Nat) (Option.none : Option Jvm.ClassFile.FieldType) ∈ tb := tb_of (lw_c4 (List.mem_of_getElem? (i := 168) rfl)) rfl
theorem q1043 : Cond.methodLink "PinEngines$Program" (36 : Nat) ({ cls := "PinEngines$Setup", name := "clear", desc := "()V" } : Jvm.MethodName) ∈ tb := tb_of (lw_c4 (List.mem_of_getElem? (i := 169) (by decide +kernel))) rfl
theorem q1044 : Cond.methodLink "PinEngines$ProgramReader" (47 : Nat) ({ cls := "PinEngines$Tokens", name := "rewind", desc := "()V" } : Jvm.MethodName) ∈ tb := tb_of (lw_c4 (List.mem_of_getElem? (i := 170) (by decide +kernel))) rfl
theorem q1045 : Cond.fieldLink "PinEngines$ProgramReader" (50 : Nat) "PinEngines$Symbol" "END" "LPinEngines$Symbol;" ∈ tb := tb_of (lw_c4 (List.mem_of_getElem? (i := 171) (by decide +kernel))) rfl
theorem q1046 : Cond.methodLink "PinEngines$ProgramReader" (56 : Nat) ({ cls := "PinEngines$Tokens", name := "at", desc := "(LPinEngines$Symbol;)Z" } : Jvm.MethodName) ∈ tb := tb_of (lw_c4 (List.mem_of_getElem? (i := 172) (by decide +kernel))) rfl
theorem q1047 : Cond.instanceMethod ({ cls := "PinEngines$Tokens", name := "at", desc := "(LPinEngines$Symbol;)Z" } : Jvm.MethodName) ∈ tb := tb_of (lw_c4 (List.mem_of_getElem? (i := 173) (by decide +kernel))) rfl
theorem q1048 : Cond.selects "PinEngines$Tokens" ({ cls := "PinEngines$Tokens", name := "at", desc := "(LPinEngines$Symbol;)Z" } : Jvm.MethodName) ({ cls := "PinEngines$Tokens", name := "at", desc := "(LPinEngines$Symbol;)Z" } : Jvm.MethodName) ∈ tb := tb_of (lw_c4 (List.mem_of_getElem? (i := 174) (by decide +kernel))) rfl
set_option maxRecDepth 100000 in
theorem q1049 : Cond.code ({ cls := "PinEngines$Tokens", name := "at", desc := "(LPinEngines$Symbol;)Z" } : Jvm.MethodName) prog_13_method_5_code (2 : Nat) (Option.some Jvm.ClassFile.FieldType.boolean) ∈ tb := tb_of (lw_c4 (List.mem_of_getElem? (i := 175) rfl)) rfl
theorem q1050 : Cond.fieldLink "PinEngines$ProgramReader" (60 : Nat) "PinEngines$Symbol" "ENGINE" "LPinEngines$Symbol;" ∈ tb := tb_of (lw_c4 (List.mem_of_getElem? (i := 176) (by decide +kernel))) rfl
theorem q1052 : Cond.methodLink "PinEngines$ProgramReader" (63 : Nat) ({ cls := "PinEngines$Tokens", name := "skip", desc := "(LPinEngines$Symbol;)Z" } : Jvm.MethodName) ∈ tb := tb_of (lw_c4 (List.mem_of_getElem? (i := 178) (by decide +kernel))) rfl
theorem q1053 : Cond.instanceMethod ({ cls := "PinEngines$Tokens", name := "skip", desc := "(LPinEngines$Symbol;)Z" } : Jvm.MethodName) ∈ tb := tb_of (lw_c4 (List.mem_of_getElem? (i := 179) (by decide +kernel))) rfl
theorem q1054 : Cond.selects "PinEngines$Tokens" ({ cls := "PinEngines$Tokens", name := "skip", desc := "(LPinEngines$Symbol;)Z" } : Jvm.MethodName) ({ cls := "PinEngines$Tokens", name := "skip", desc := "(LPinEngines$Symbol;)Z" } : Jvm.MethodName) ∈ tb := tb_of (lw_c4 (List.mem_of_getElem? (i := 180) (by decide +kernel))) rfl
set_option maxRecDepth 100000 in
theorem q1055 : Cond.code ({ cls := "PinEngines$Tokens", name := "skip", desc := "(LPinEngines$Symbol;)Z" } : Jvm.MethodName) prog_13_method_9_code (2 : Nat) (Option.some Jvm.ClassFile.FieldType.boolean) ∈ tb := tb_of (lw_c4 (List.mem_of_getElem? (i := 181) rfl)) rfl
theorem q1056 : Cond.methodLink "PinEngines$Tokens" (66 : Nat) ({ cls := "PinEngines$Tokens", name := "at", desc := "(LPinEngines$Symbol;)Z" } : Jvm.MethodName) ∈ tb := tb_of (lw_c4 (List.mem_of_getElem? (i := 182) (by decide +kernel))) rfl
theorem q1057 : Cond.methodLink "PinEngines$ProgramReader" (66 : Nat) ({ cls := "PinEngines$ProgramReader", name := "readEngine", desc := "()V" } : Jvm.MethodName) ∈ tb := tb_of (lw_c4 (List.mem_of_getElem? (i := 183) (by decide +kernel))) rfl
theorem q1059 : Cond.instanceMethod ({ cls := "PinEngines$ProgramReader", name := "readEngine", desc := "()V" } : Jvm.MethodName) ∈ tb := tb_of (lw_c4 (List.mem_of_getElem? (i := 185) (by decide +kernel))) rfl
set_option maxRecDepth 100000 in
theorem q1060 : Cond.code ({ cls := "PinEngines$ProgramReader", name := "readEngine", desc := "()V" } : Jvm.MethodName) prog_7_method_4_code (3 : Nat) (Option.none : Option Jvm.ClassFile.FieldType) ∈ tb := tb_of (lw_c4 (List.mem_of_getElem? (i := 186) rfl)) rfl
theorem q1061 : Cond.methodLink "PinEngines$ProgramReader" (88 : Nat) ({ cls := "PinEngines$Tokens", name := "atNumberBelow", desc := "(I)Z" } : Jvm.MethodName) ∈ tb := tb_of (lw_c4 (List.mem_of_getElem? (i := 187) (by decide +kernel))) rfl
theorem q1062 : Cond.instanceMethod ({ cls := "PinEngines$Tokens", name := "atNumberBelow", desc := "(I)Z" } : Jvm.MethodName) ∈ tb := tb_of (lw_c4 (List.mem_of_getElem? (i := 188) (by decide +kernel))) rfl
theorem q1063 : Cond.selects "PinEngines$Tokens" ({ cls := "PinEngines$Tokens", name := "atNumberBelow", desc := "(I)Z" } : Jvm.MethodName) ({ cls := "PinEngines$Tokens", name := "atNumberBelow", desc := "(I)Z" } : Jvm.MethodName) ∈ tb := tb_of (lw_c4 (List.mem_of_getElem? (i := 189) (by decide +kernel))) rfl
set_option maxRecDepth 100000 in
theorem q1064 : Cond.code ({ cls := "PinEngines$Tokens", name := "atNumberBelow", desc := "(I)Z" } : Jvm.MethodName) prog_13_method_7_code (2 : Nat) (Option.some Jvm.ClassFile.FieldType.boolean) ∈ tb := tb_of (lw_c4 (List.mem_of_getElem? (i := 190) rfl)) rfl
theorem q1065 : Cond.methodLink "PinEngines$ProgramReader" (92 : Nat) ({ cls := "PinEngines$Tokens", name := "number", desc := "()I" } : Jvm.MethodName) ∈ tb := tb_of (lw_c4 (List.mem_of_getElem? (i := 191) (by decide +kernel))) rfl
theorem q1066 : Cond.instanceMethod ({ cls := "PinEngines$Tokens", name := "number", desc := "()I" } : Jvm.MethodName) ∈ tb := tb_of (lw_c4 (List.mem_of_getElem? (i := 192) (by decide +kernel))) rfl
theorem q1067 : Cond.selects "PinEngines$Tokens" ({ cls := "PinEngines$Tokens", name := "number", desc := "()I" } : Jvm.MethodName) ({ cls := "PinEngines$Tokens", name := "number", desc := "()I" } : Jvm.MethodName) ∈ tb := tb_of (lw_c4 (List.mem_of_getElem? (i := 193) (by decide +kernel))) rfl
set_option maxRecDepth 100000 in
theorem q1068 : Cond.code ({ cls := "PinEngines$Tokens", name := "number", desc := "()I" } : Jvm.MethodName) prog_13_method_8_code (1 : Nat) (Option.some Jvm.ClassFile.FieldType.int) ∈ tb := tb_of (lw_c4 (List.mem_of_getElem? (i := 194) rfl)) rfl
theorem q1069 : Cond.methodLink "PinEngines$ProgramReader" (96 : Nat) ({ cls := "PinEngines$Program", name := "hasEngine", desc := "(I)Z" } : Jvm.MethodName) ∈ tb := tb_of (lw_c4 (List.mem_of_getElem? (i := 195) (by decide +kernel))) rfl
theorem q1070 : Cond.instanceMethod ({ cls := "PinEngines$Program", name := "hasEngine", desc := "(I)Z" } : Jvm.MethodName) ∈ tb := tb_of (lw_c4 (List.mem_of_getElem? (i := 196) (by decide +kernel))) rfl
theorem q1071 : Cond.selects "PinEngines$Program" ({ cls := "PinEngines$Program", name := "hasEngine", desc := "(I)Z" } : Jvm.MethodName) ({ cls := "PinEngines$Program", name := "hasEngine", desc := "(I)Z" } : Jvm.MethodName) ∈ tb := tb_of (lw_c4 (List.mem_of_getElem? (i := 197) (by decide +kernel))) rfl
set_option maxRecDepth 100000 in
theorem q1072 : Cond.code ({ cls := "PinEngines$Program", name := "hasEngine", desc := "(I)Z" } : Jvm.MethodName) prog_6_method_6_code (2 : Nat) (Option.some Jvm.ClassFile.FieldType.boolean) ∈ tb := tb_of (lw_c4 (List.mem_of_getElem? (i := 198) rfl)) rfl
theorem q1073 : Cond.methodLink "PinEngines$ProgramReader" (99 : Nat) ({ cls := "PinEngines$Tokens", name := "fail", desc := "(I)V" } : Jvm.MethodName) ∈ tb := tb_of (lw_c4 (List.mem_of_getElem? (i := 199) (by decide +kernel))) rfl
theorem q1074 : Cond.instanceMethod ({ cls := "PinEngines$Tokens", name := "fail", desc := "(I)V" } : Jvm.MethodName) ∈ tb := tb_of (lw_c4 (List.mem_of_getElem? (i := 200) (by decide +kernel))) rfl
theorem q1075 : Cond.selects "PinEngines$Tokens" ({ cls := "PinEngines$Tokens", name := "fail", desc := "(I)V" } : Jvm.MethodName) ({ cls := "PinEngines$Tokens", name := "fail", desc := "(I)V" } : Jvm.MethodName) ∈ tb := tb_of (lw_c4 (List.mem_of_getElem? (i := 201) (by decide +kernel))) rfl
set_option maxRecDepth 100000 in
theorem q1076 : Cond.code ({ cls := "PinEngines$Tokens", name := "fail", desc := "(I)V" } : Jvm.MethodName) prog_13_method_4_code (2 : Nat) (Option.none : Option Jvm.ClassFile.FieldType) ∈ tb := tb_of (lw_c4 (List.mem_of_getElem? (i := 202) rfl)) rfl
theorem q1077 : Cond.methodLink "PinEngines$ProgramReader" (107 : Nat) ({ cls := "PinEngines$Tokens", name := "takeNumber", desc := "(II)I" } : Jvm.MethodName) ∈ tb := tb_of (lw_c4 (List.mem_of_getElem? (i := 203) (by decide +kernel))) rfl
theorem q1078 : Cond.instanceMethod ({ cls := "PinEngines$Tokens", name := "takeNumber", desc := "(II)I" } : Jvm.MethodName) ∈ tb := tb_of (lw_c4 (List.mem_of_getElem? (i := 204) (by decide +kernel))) rfl
theorem q1079 : Cond.selects "PinEngines$Tokens" ({ cls := "PinEngines$Tokens", name := "takeNumber", desc := "(II)I" } : Jvm.MethodName) ({ cls := "PinEngines$Tokens", name := "takeNumber", desc := "(II)I" } : Jvm.MethodName) ∈ tb := tb_of (lw_c4 (List.mem_of_getElem? (i := 205) (by decide +kernel))) rfl
set_option maxRecDepth 100000 in
theorem q1080 : Cond.code ({ cls := "PinEngines$Tokens", name := "takeNumber", desc := "(II)I" } : Jvm.MethodName) prog_13_method_14_code (4 : Nat) (Option.some Jvm.ClassFile.FieldType.int) ∈ tb := tb_of (lw_c4 (List.mem_of_getElem? (i := 206) rfl)) rfl
theorem q1081 : Cond.methodLink "PinEngines$Tokens" (73 : Nat) ({ cls := "PinEngines$Tokens", name := "fail", desc := "(I)V" } : Jvm.MethodName) ∈ tb := tb_of (lw_c4 (List.mem_of_getElem? (i := 207) (by decide +kernel))) rfl
theorem q1082 : Cond.fieldLink "PinEngines$ProgramReader" (116 : Nat) "PinEngines$Symbol" "START" "LPinEngines$Symbol;" ∈ tb := tb_of (lw_c4 (List.mem_of_getElem? (i := 208) (by decide +kernel))) rfl
theorem q1084 : Cond.methodLink "PinEngines$ProgramReader" (84 : Nat) ({ cls := "PinEngines$Tokens", name := "expect", desc := "(LPinEngines$Symbol;)V" } : Jvm.MethodName) ∈ tb := tb_of (lw_c4 (List.mem_of_getElem? (i := 210) (by decide +kernel))) rfl
theorem q1085 : Cond.instanceMethod ({ cls := "PinEngines$Tokens", name := "expect", desc := "(LPinEngines$Symbol;)V" } : Jvm.MethodName) ∈ tb := tb_of (lw_c4 (List.mem_of_getElem? (i := 211) (by decide +kernel))) rfl
theorem q1086 : Cond.selects "PinEngines$Tokens" ({ cls := "PinEngines$Tokens", name := "expect", desc := "(LPinEngines$Symbol;)V" } : Jvm.MethodName) ({ cls := "PinEngines$Tokens", name := "expect", desc := "(LPinEngines$Symbol;)V" } : Jvm.MethodName) ∈ tb := tb_of (lw_c4 (List.mem_of_getElem? (i := 212) (by decide +kernel))) rfl
set_option maxRecDepth 100000 in
theorem q1087 : Cond.code ({ cls := "PinEngines$Tokens", name := "expect", desc := "(LPinEngines$Symbol;)V" } : Jvm.MethodName) prog_13_method_10_code (2 : Nat) (Option.none : Option Jvm.ClassFile.FieldType) ∈ tb := tb_of (lw_c4 (List.mem_of_getElem? (i := 213) rfl)) rfl
theorem q1088 : Cond.methodLink "PinEngines$Tokens" (70 : Nat) ({ cls := "PinEngines$Tokens", name := "skip", desc := "(LPinEngines$Symbol;)Z" } : Jvm.MethodName) ∈ tb := tb_of (lw_c4 (List.mem_of_getElem? (i := 214) (by decide +kernel))) rfl
theorem q1089 : Cond.methodLink "PinEngines$ProgramReader" (119 : Nat) ({ cls := "PinEngines$ProgramReader", name := "takeName", desc := "()I" } : Jvm.MethodName) ∈ tb := tb_of (lw_c4 (List.mem_of_getElem? (i := 215) (by decide +kernel))) rfl
theorem q1091 : Cond.instanceMethod ({ cls := "PinEngines$ProgramReader", name := "takeName", desc := "()I" } : Jvm.MethodName) ∈ tb := tb_of (lw_c4 (List.mem_of_getElem? (i := 217) (by decide +kernel))) rfl
set_option maxRecDepth 100000 in
theorem q1092 : Cond.code ({ cls := "PinEngines$ProgramReader", name := "takeName", desc := "()I" } : Jvm.MethodName) prog_7_method_18_code (2 : Nat) (Option.some Jvm.ClassFile.FieldType.int) ∈ tb := tb_of (lw_c4 (List.mem_of_getElem? (i := 218) rfl)) rfl
theorem q1093 : Cond.fieldLink "PinEngines$ProgramReader" (210 : Nat) "PinEngines$Symbol" "NAME" "LPinEngines$Symbol;" ∈ tb := tb_of (lw_c4 (List.mem_of_getElem? (i := 219) (by decide +kernel))) rfl
theorem q1094 : Cond.methodLink "PinEngines$ProgramReader" (219 : Nat) ({ cls := "PinEngines$ProgramReader", name := "labelAddress", desc := "()I" } : Jvm.MethodName) ∈ tb := tb_of (lw_c4 (List.mem_of_getElem? (i := 220) (by decide +kernel))) rfl
theorem q1096 : Cond.instanceMethod ({ cls := "PinEngines$ProgramReader", name := "labelAddress", desc := "()I" } : Jvm.MethodName) ∈ tb := tb_of (lw_c4 (List.mem_of_getElem? (i := 222) (by decide +kernel))) rfl
set_option maxRecDepth 100000 in
theorem q1097 : Cond.code ({ cls := "PinEngines$ProgramReader", name := "labelAddress", desc := "()I" } : Jvm.MethodName) prog_7_method_10_code (2 : Nat) (Option.some Jvm.ClassFile.FieldType.int) ∈ tb := tb_of (lw_c4 (List.mem_of_getElem? (i := 223) rfl)) rfl
theorem q1098 : Cond.methodLink "PinEngines$ProgramReader" (228 : Nat) ({ cls := "PinEngines$Tokens", name := "isSameAs", desc := "(I)Z" } : Jvm.MethodName) ∈ tb := tb_of (lw_c4 (List.mem_of_getElem? (i := 224) (by decide +kernel))) rfl
theorem q1099 : Cond.instanceMethod ({ cls := "PinEngines$Tokens", name := "isSameAs", desc := "(I)Z" } : Jvm.MethodName) ∈ tb := tb_of (lw_c4 (List.mem_of_getElem? (i := 225) (by decide +kernel))) rfl
theorem q1100 : Cond.selects "PinEngines$Tokens" ({ cls := "PinEngines$Tokens", name := "isSameAs", desc := "(I)Z" } : Jvm.MethodName) ({ cls := "PinEngines$Tokens", name := "isSameAs", desc := "(I)Z" } : Jvm.MethodName) ∈ tb := tb_of (lw_c4 (List.mem_of_getElem? (i := 226) (by decide +kernel))) rfl
set_option maxRecDepth 100000 in
theorem q1101 : Cond.code ({ cls := "PinEngines$Tokens", name := "isSameAs", desc := "(I)Z" } : Jvm.MethodName) prog_13_method_15_code (4 : Nat) (Option.some Jvm.ClassFile.FieldType.boolean) ∈ tb := tb_of (lw_c4 (List.mem_of_getElem? (i := 227) rfl)) rfl
theorem q1102 : Cond.methodLink "PinEngines$ProgramReader" (125 : Nat) ({ cls := "PinEngines$Tokens", name := "atRole", desc := "(I)Z" } : Jvm.MethodName) ∈ tb := tb_of (lw_c4 (List.mem_of_getElem? (i := 228) (by decide +kernel))) rfl
theorem q1103 : Cond.instanceMethod ({ cls := "PinEngines$Tokens", name := "atRole", desc := "(I)Z" } : Jvm.MethodName) ∈ tb := tb_of (lw_c4 (List.mem_of_getElem? (i := 229) (by decide +kernel))) rfl
theorem q1104 : Cond.selects "PinEngines$Tokens" ({ cls := "PinEngines$Tokens", name := "atRole", desc := "(I)Z" } : Jvm.MethodName) ({ cls := "PinEngines$Tokens", name := "atRole", desc := "(I)Z" } : Jvm.MethodName) ∈ tb := tb_of (lw_c4 (List.mem_of_getElem? (i := 230) (by decide +kernel))) rfl
set_option maxRecDepth 100000 in
theorem q1105 : Cond.code ({ cls := "PinEngines$Tokens", name := "atRole", desc := "(I)Z" } : Jvm.MethodName) prog_13_method_6_code (2 : Nat) (Option.some Jvm.ClassFile.FieldType.boolean) ∈ tb := tb_of (lw_c4 (List.mem_of_getElem? (i := 231) rfl)) rfl
theorem q1106 : Cond.methodLink "PinEngines$ProgramReader" (128 : Nat) ({ cls := "PinEngines$Tokens", name := "takeRole", desc := "(I)LPinEngines$Symbol;" } : Jvm.MethodName) ∈ tb := tb_of (lw_c4 (List.mem_of_getElem? (i := 232) (by decide +kernel))) rfl
theorem q1107 : Cond.instanceMethod ({ cls := "PinEngines$Tokens", name := "takeRole", desc := "(I)LPinEngines$Symbol;" } : Jvm.MethodName) ∈ tb := tb_of (lw_c4 (List.mem_of_getElem? (i := 233) (by decide +kernel))) rfl
theorem q1108 : Cond.selects "PinEngines$Tokens" ({ cls := "PinEngines$Tokens", name := "takeRole", desc := "(I)LPinEngines$Symbol;" } : Jvm.MethodName) ({ cls := "PinEngines$Tokens", name := "takeRole", desc := "(I)LPinEngines$Symbol;" } : Jvm.MethodName) ∈ tb := tb_of (lw_c4 (List.mem_of_getElem? (i := 234) (by decide +kernel))) rfl
set_option maxRecDepth 100000 in
theorem q1109 : Cond.code ({ cls := "PinEngines$Tokens", name := "takeRole", desc := "(I)LPinEngines$Symbol;" } : Jvm.MethodName) prog_13_method_13_code (3 : Nat) (Option.some (Jvm.ClassFile.FieldType.object "PinEngines$Symbol")) ∈ tb := tb_of (lw_c4 (List.mem_of_getElem? (i := 235) rfl)) rfl
theorem q1110 : Cond.methodLink "PinEngines$Tokens" (84 : Nat) ({ cls := "PinEngines$Tokens", name := "takeOptional", desc := "(I)LPinEngines$Symbol;" } : Jvm.MethodName) ∈ tb := tb_of (lw_c4 (List.mem_of_getElem? (i := 236) (by decide +kernel))) rfl
theorem q1111 : Cond.instanceMethod ({ cls := "PinEngines$Tokens", name := "takeOptional", desc := "(I)LPinEngines$Symbol;" } : Jvm.MethodName) ∈ tb := tb_of (lw_c4 (List.mem_of_getElem? (i := 237) (by decide +kernel))) rfl
theorem q1112 : Cond.selects "PinEngines$Tokens" ({ cls := "PinEngines$Tokens", name := "takeOptional", desc := "(I)LPinEngines$Symbol;" } : Jvm.MethodName) ({ cls := "PinEngines$Tokens", name := "takeOptional", desc := "(I)LPinEngines$Symbol;" } : Jvm.MethodName) ∈ tb := tb_of (lw_c4 (List.mem_of_getElem? (i := 238) (by decide +kernel))) rfl
set_option maxRecDepth 100000 in
theorem q1113 : Cond.code ({ cls := "PinEngines$Tokens", name := "takeOptional", desc := "(I)LPinEngines$Symbol;" } : Jvm.MethodName) prog_13_method_12_code (2 : Nat) (Option.some (Jvm.ClassFile.FieldType.object "PinEngines$Symbol")) ∈ tb := tb_of (lw_c4 (List.mem_of_getElem? (i := 239) rfl)) rfl
theorem q1114 : Cond.methodLink "PinEngines$Tokens" (77 : Nat) ({ cls := "PinEngines$Tokens", name := "atRole", desc := "(I)Z" } : Jvm.MethodName) ∈ tb := tb_of (lw_c5 (List.mem_of_getElem? (i := 0) (by decide +kernel))) rfl
theorem q1115 : Cond.fieldLink "PinEngines$Tokens" (81 : Nat) "PinEngines$Symbol" "NOTHING" "LPinEngines$Symbol;" ∈ tb := tb_of (lw_c5 (List.mem_of_getElem? (i := 1) (by decide +kernel))) rfl
theorem q1116 : Cond.methodLink "PinEngines$ProgramReader" (132 : Nat) ({ cls := "PinEngines$ProgramReader", name := "readSetting", desc := "(LPinEngines$Setup;LPinEngines$Symbol;)V" } : Jvm.MethodName) ∈ tb := tb_of (lw_c5 (List.mem_of_getElem? (i := 2) (by decide +kernel))) rfl
theorem q1118 : Cond.instanceMethod ({ cls := "PinEngines$ProgramReader", name := "readSetting", desc := "(LPinEngines$Setup;LPinEngines$Symbol;)V" } : Jvm.MethodName) ∈ tb := tb_of (lw_c5 (List.mem_of_getElem? (i := 4) (by decide +kernel))) rfl
set_option maxRecDepth 100000 in
theorem q1119 : Cond.code ({ cls := "PinEngines$ProgramReader", name := "readSetting", desc := "(LPinEngines$Setup;LPinEngines$Symbol;)V" } : Jvm.MethodName) prog_7_method_5_code (3 : Nat) (Option.none : Option Jvm.ClassFile.FieldType) ∈ tb := tb_of (lw_c5 (List.mem_of_getElem? (i := 5) rfl)) rfl
theorem q1120 : Cond.fieldLink "PinEngines$ProgramReader" (136 : Nat) "PinEngines$1" "$SwitchMap$PinEngines$Symbol" "[I" ∈ tb := tb_of (lw_c5 (List.mem_of_getElem? (i := 6) (by decide +kernel))) rfl
theorem q1122 : Cond.methodLink "PinEngines$ProgramReader" (141 : Nat) ({ cls := "PinEngines$Symbol", name := "ordinal", desc := "()I" } : Jvm.MethodName) ∈ tb := tb_of (lw_c5 (List.mem_of_getElem? (i := 8) (by decide +kernel))) rfl
theorem q1126 : Cond.instanceMethod ({ cls := "java/lang/Enum", name := "ordinal", desc := "()I" } : Jvm.MethodName) ∈ tb := tb_of (lw_c5 (List.mem_of_getElem? (i := 12) (by decide +kernel))) rfl
set_option maxRecDepth 100000 in
theorem q1127 : Cond.code ({ cls := "java/lang/Enum", name := "ordinal", desc := "()I" } : Jvm.MethodName) prog_22_method_2_code (1 : Nat) (Option.some Jvm.ClassFile.FieldType.int) ∈ tb := tb_of (lw_c5 (List.mem_of_getElem? (i := 13) rfl)) rfl
theorem q1128 : Cond.methodLink "PinEngines$ProgramReader" (153 : Nat) ({ cls := "PinEngines$ProgramReader", name := "takePin", desc := "()I" } : Jvm.MethodName) ∈ tb := tb_of (lw_c5 (List.mem_of_getElem? (i := 14) (by decide +kernel))) rfl
theorem q1130 : Cond.instanceMethod ({ cls := "PinEngines$ProgramReader", name := "takePin", desc := "()I" } : Jvm.MethodName) ∈ tb := tb_of (lw_c5 (List.mem_of_getElem? (i := 16) (by decide +kernel))) rfl
set_option maxRecDepth 100000 in
theorem q1131 : Cond.code ({ cls := "PinEngines$ProgramReader", name := "takePin", desc := "()I" } : Jvm.MethodName) prog_7_method_15_code (1 : Nat) (Option.some Jvm.ClassFile.FieldType.int) ∈ tb := tb_of (lw_c5 (List.mem_of_getElem? (i := 17) rfl)) rfl
theorem q1132 : Cond.methodLink "PinEngines$ProgramReader" (159 : Nat) ({ cls := "PinEngines$ProgramReader", name := "takeGroup", desc := "(II)I" } : Jvm.MethodName) ∈ tb := tb_of (lw_c5 (List.mem_of_getElem? (i := 18) (by decide +kernel))) rfl
theorem q1134 : Cond.instanceMethod ({ cls := "PinEngines$ProgramReader", name := "takeGroup", desc := "(II)I" } : Jvm.MethodName) ∈ tb := tb_of (lw_c5 (List.mem_of_getElem? (i := 20) (by decide +kernel))) rfl
set_option maxRecDepth 100000 in
theorem q1135 : Cond.code ({ cls := "PinEngines$ProgramReader", name := "takeGroup", desc := "(II)I" } : Jvm.MethodName) prog_7_method_17_code (4 : Nat) (Option.some Jvm.ClassFile.FieldType.int) ∈ tb := tb_of (lw_c5 (List.mem_of_getElem? (i := 21) rfl)) rfl
theorem q1137 : Cond.static ({ cls := "PinEngines", name := "rotatedPins", desc := "(II)I" } : Jvm.MethodName) ∈ tb := tb_of (lw_c5 (List.mem_of_getElem? (i := 23) (by decide +kernel))) rfl
set_option maxRecDepth 100000 in
theorem q1138 : Cond.code ({ cls := "PinEngines", name := "rotatedPins", desc := "(II)I" } : Jvm.MethodName) prog_1_method_59_code (3 : Nat) (Option.some Jvm.ClassFile.FieldType.int) ∈ tb := tb_of (lw_c5 (List.mem_of_getElem? (i := 24) rfl)) rfl
theorem q1139 : Cond.constant "PinEngines" (288 : Nat) (65535 : Int32) ∈ tb := tb_of (lw_c5 (List.mem_of_getElem? (i := 25) (by decide +kernel))) rfl
theorem q1140 : Cond.methodLink "PinEngines$ProgramReader" (183 : Nat) ({ cls := "PinEngines$ProgramReader", name := "readShifting", desc := "(LPinEngines$Setup;LPinEngines$Symbol;)V" } : Jvm.MethodName) ∈ tb := tb_of (lw_c5 (List.mem_of_getElem? (i := 26) (by decide +kernel))) rfl
theorem q1142 : Cond.instanceMethod ({ cls := "PinEngines$ProgramReader", name := "readShifting", desc := "(LPinEngines$Setup;LPinEngines$Symbol;)V" } : Jvm.MethodName) ∈ tb := tb_of (lw_c5 (List.mem_of_getElem? (i := 28) (by decide +kernel))) rfl
set_option maxRecDepth 100000 in
theorem q1143 : Cond.code ({ cls := "PinEngines$ProgramReader", name := "readShifting", desc := "(LPinEngines$Setup;LPinEngines$Symbol;)V" } : Jvm.MethodName) prog_7_method_6_code (3 : Nat) (Option.none : Option Jvm.ClassFile.FieldType) ∈ tb := tb_of (lw_c5 (List.mem_of_getElem? (i := 29) rfl)) rfl
theorem q1144 : Cond.fieldLink "PinEngines$ProgramReader" (69 : Nat) "PinEngines$Symbol" "LEVEL" "LPinEngines$Symbol;" ∈ tb := tb_of (lw_c5 (List.mem_of_getElem? (i := 30) (by decide +kernel))) rfl
theorem q1146 : Cond.methodLink "PinEngines$ProgramReader" (72 : Nat) ({ cls := "PinEngines$ProgramReader", name := "readLevel", desc := "()V" } : Jvm.MethodName) ∈ tb := tb_of (lw_c5 (List.mem_of_getElem? (i := 32) (by decide +kernel))) rfl
theorem q1148 : Cond.instanceMethod ({ cls := "PinEngines$ProgramReader", name := "readLevel", desc := "()V" } : Jvm.MethodName) ∈ tb := tb_of (lw_c5 (List.mem_of_getElem? (i := 34) (by decide +kernel))) rfl
set_option maxRecDepth 100000 in
theorem q1149 : Cond.code ({ cls := "PinEngines$ProgramReader", name := "readLevel", desc := "()V" } : Jvm.MethodName) prog_7_method_7_code (3 : Nat) (Option.none : Option Jvm.ClassFile.FieldType) ∈ tb := tb_of (lw_c5 (List.mem_of_getElem? (i := 35) rfl)) rfl
theorem q1150 : Cond.methodLink "PinEngines$ProgramReader" (75 : Nat) ({ cls := "PinEngines$ProgramReader", name := "readLabel", desc := "()V" } : Jvm.MethodName) ∈ tb := tb_of (lw_c5 (List.mem_of_getElem? (i := 36) (by decide +kernel))) rfl
theorem q1152 : Cond.instanceMethod ({ cls := "PinEngines$ProgramReader", name := "readLabel", desc := "()V" } : Jvm.MethodName) ∈ tb := tb_of (lw_c5 (List.mem_of_getElem? (i := 38) (by decide +kernel))) rfl
set_option maxRecDepth 100000 in
theorem q1153 : Cond.code ({ cls := "PinEngines$ProgramReader", name := "readLabel", desc := "()V" } : Jvm.MethodName) prog_7_method_8_code (1 : Nat) (Option.none : Option Jvm.ClassFile.FieldType) ∈ tb := tb_of (lw_c5 (List.mem_of_getElem? (i := 39) rfl)) rfl
theorem q1154 : Cond.methodLink "PinEngines$ProgramReader" (213 : Nat) ({ cls := "PinEngines$ProgramReader", name := "defineLabel", desc := "()V" } : Jvm.MethodName) ∈ tb := tb_of (lw_c5 (List.mem_of_getElem? (i := 40) (by decide +kernel))) rfl
theorem q1156 : Cond.instanceMethod ({ cls := "PinEngines$ProgramReader", name := "defineLabel", desc := "()V" } : Jvm.MethodName) ∈ tb := tb_of (lw_c5 (List.mem_of_getElem? (i := 42) (by decide +kernel))) rfl
set_option maxRecDepth 100000 in
theorem q1157 : Cond.code ({ cls := "PinEngines$ProgramReader", name := "defineLabel", desc := "()V" } : Jvm.MethodName) prog_7_method_9_code (1 : Nat) (Option.none : Option Jvm.ClassFile.FieldType) ∈ tb := tb_of (lw_c5 (List.mem_of_getElem? (i := 43) rfl)) rfl
theorem q1158 : Cond.fieldLink "PinEngines$ProgramReader" (216 : Nat) "PinEngines$Symbol" "COLON" "LPinEngines$Symbol;" ∈ tb := tb_of (lw_c5 (List.mem_of_getElem? (i := 44) (by decide +kernel))) rfl
theorem q1160 : Cond.methodLink "PinEngines$ProgramReader" (78 : Nat) ({ cls := "PinEngines$ProgramReader", name := "readInstruction", desc := "()V" } : Jvm.MethodName) ∈ tb := tb_of (lw_c5 (List.mem_of_getElem? (i := 46) (by decide +kernel))) rfl
theorem q1162 : Cond.instanceMethod ({ cls := "PinEngines$ProgramReader", name := "readInstruction", desc := "()V" } : Jvm.MethodName) ∈ tb := tb_of (lw_c5 (List.mem_of_getElem? (i := 48) (by decide +kernel))) rfl
set_option maxRecDepth 100000 in
theorem q1163 : Cond.code ({ cls := "PinEngines$ProgramReader", name := "readInstruction", desc := "()V" } : Jvm.MethodName) prog_7_method_11_code (2 : Nat) (Option.none : Option Jvm.ClassFile.FieldType) ∈ tb := tb_of (lw_c5 (List.mem_of_getElem? (i := 49) rfl)) rfl
theorem q1164 : Cond.methodLink "PinEngines$ProgramReader" (231 : Nat) ({ cls := "PinEngines$Program", name := "isFull", desc := "()Z" } : Jvm.MethodName) ∈ tb := tb_of (lw_c5 (List.mem_of_getElem? (i := 50) (by decide +kernel))) rfl
theorem q1165 : Cond.instanceMethod ({ cls := "PinEngines$Program", name := "isFull", desc := "()Z" } : Jvm.MethodName) ∈ tb := tb_of (lw_c5 (List.mem_of_getElem? (i := 51) (by decide +kernel))) rfl
theorem q1166 : Cond.selects "PinEngines$Program" ({ cls := "PinEngines$Program", name := "isFull", desc := "()Z" } : Jvm.MethodName) ({ cls := "PinEngines$Program", name := "isFull", desc := "()Z" } : Jvm.MethodName) ∈ tb := tb_of (lw_c5 (List.mem_of_getElem? (i := 52) (by decide +kernel))) rfl
set_option maxRecDepth 100000 in
theorem q1167 : Cond.code ({ cls := "PinEngines$Program", name := "isFull", desc := "()Z" } : Jvm.MethodName) prog_6_method_3_code (1 : Nat) (Option.some Jvm.ClassFile.FieldType.boolean) ∈ tb := tb_of (lw_c5 (List.mem_of_getElem? (i := 53) rfl)) rfl
theorem q1168 : Cond.methodLink "PinEngines$ProgramReader" (235 : Nat) ({ cls := "PinEngines$Program", name := "add", desc := "(LPinEngines$Symbol;)LPinEngines$Instruction;" } : Jvm.MethodName) ∈ tb := tb_of (lw_c5 (List.mem_of_getElem? (i := 54) (by decide +kernel))) rfl
theorem q1169 : Cond.instanceMethod ({ cls := "PinEngines$Program", name := "add", desc := "(LPinEngines$Symbol;)LPinEngines$Instruction;" } : Jvm.MethodName) ∈ tb := tb_of (lw_c5 (List.mem_of_getElem? (i := 55) (by decide +kernel))) rfl
theorem q1170 : Cond.selects "PinEngines$Program" ({ cls := "PinEngines$Program", name := "add", desc := "(LPinEngines$Symbol;)LPinEngines$Instruction;" } : Jvm.MethodName) ({ cls := "PinEngines$Program", name := "add", desc := "(LPinEngines$Symbol;)LPinEngines$Instruction;" } : Jvm.MethodName) ∈ tb := tb_of (lw_c5 (List.mem_of_getElem? (i := 56) (by decide +kernel))) rfl
set_option maxRecDepth 100000 in
theorem q1171 : Cond.code ({ cls := "PinEngines$Program", name := "add", desc := "(LPinEngines$Symbol;)LPinEngines$Instruction;" } : Jvm.MethodName) prog_6_method_4_code (3 : Nat) (Option.some (Jvm.ClassFile.FieldType.object "PinEngines$Instruction")) ∈ tb := tb_of (lw_c5 (List.mem_of_getElem? (i := 57) rfl)) rfl
theorem q1172 : Cond.methodLink "PinEngines$Program" (39 : Nat) ({ cls := "PinEngines$Program", name := "isFull", desc := "()Z" } : Jvm.MethodName) ∈ tb := tb_of (lw_c5 (List.mem_of_getElem? (i := 58) (by decide +kernel))) rfl
theorem q1173 : Cond.methodLink "PinEngines$Program" (43 : Nat) ({ cls := "PinEngines$Instruction", name := "clearTo", desc := "(LPinEngines$Symbol;)V" } : Jvm.MethodName) ∈ tb := tb_of (lw_c5 (List.mem_of_getElem? (i := 59) (by decide +kernel))) rfl
theorem q1174 : Cond.instanceMethod ({ cls := "PinEngines$Instruction", name := "clearTo", desc := "(LPinEngines$Symbol;)V" } : Jvm.MethodName) ∈ tb := tb_of (lw_c5 (List.mem_of_getElem? (i := 60) (by decide +kernel))) rfl
theorem q1175 : Cond.selects "PinEngines$Instruction" ({ cls := "PinEngines$Instruction", name := "clearTo", desc := "(LPinEngines$Symbol;)V" } : Jvm.MethodName) ({ cls := "PinEngines$Instruction", name := "clearTo", desc := "(LPinEngines$Symbol;)V" } : Jvm.MethodName) ∈ tb := tb_of (lw_c5 (List.mem_of_getElem? (i := 61) (by decide +kernel))) rfl
set_option maxRecDepth 100000 in
theorem q1176 : Cond.code ({ cls := "PinEngines$Instruction", name := "clearTo", desc := "(LPinEngines$Symbol;)V" } : Jvm.MethodName) prog_4_method_2_code (2 : Nat) (Option.none : Option Jvm.ClassFile.FieldType) ∈ tb := tb_of (lw_c5 (List.mem_of_getElem? (i := 62) rfl)) rfl
theorem q1177 : Cond.methodLink "PinEngines$ProgramReader" (239 : Nat) ({ cls := "PinEngines$ProgramReader", name := "readOperands", desc := "(LPinEngines$Instruction;)V" } : Jvm.MethodName) ∈ tb := tb_of (lw_c5 (List.mem_of_getElem? (i := 63) (by decide +kernel))) rfl
theorem q1179 : Cond.instanceMethod ({ cls := "PinEngines$ProgramReader", name := "readOperands", desc := "(LPinEngines$Instruction;)V" } : Jvm.MethodName) ∈ tb := tb_of (lw_c5 (List.mem_of_getElem? (i := 65) (by decide +kernel))) rfl
set_option maxRecDepth 100000 in
theorem q1180 : Cond.code ({ cls := "PinEngines$ProgramReader", name := "readOperands", desc := "(LPinEngines$Instruction;)V" } : Jvm.MethodName) prog_7_method_12_code (2 : Nat) (Option.none : Option Jvm.ClassFile.FieldType) ∈ tb := tb_of (lw_c5 (List.mem_of_getElem? (i := 66) rfl)) rfl
theorem q1181 : Cond.methodLink "PinEngines$ProgramReader" (260 : Nat) ({ cls := "PinEngines$Tokens", name := "takeOptional", desc := "(I)LPinEngines$Symbol;" } : Jvm.MethodName) ∈ tb := tb_of (lw_c5 (List.mem_of_getElem? (i := 67) (by decide +kernel))) rfl
theorem q1182 : Cond.fieldLink "PinEngines$ProgramReader" (271 : Nat) "PinEngines$Symbol" "PIN" "LPinEngines$Symbol;" ∈ tb := tb_of (lw_c5 (List.mem_of_getElem? (i := 68) (by decide +kernel))) rfl
theorem q1184 : Cond.methodLink "PinEngines$ProgramReader" (274 : Nat) ({ cls := "PinEngines$ProgramReader", name := "takeFlag", desc := "()I" } : Jvm.MethodName) ∈ tb := tb_of (lw_c5 (List.mem_of_getElem? (i := 70) (by decide +kernel))) rfl
theorem q1186 : Cond.instanceMethod ({ cls := "PinEngines$ProgramReader", name := "takeFlag", desc := "()I" } : Jvm.MethodName) ∈ tb := tb_of (lw_c5 (List.mem_of_getElem? (i := 72) (by decide +kernel))) rfl
set_option maxRecDepth 100000 in
theorem q1187 : Cond.code ({ cls := "PinEngines$ProgramReader", name := "takeFlag", desc := "()I" } : Jvm.MethodName) prog_7_method_16_code (1 : Nat) (Option.some Jvm.ClassFile.FieldType.int) ∈ tb := tb_of (lw_c5 (List.mem_of_getElem? (i := 73) rfl)) rfl
theorem q1188 : Cond.fieldLink "PinEngines$ProgramReader" (277 : Nat) "PinEngines$Symbol" "IFFULL" "LPinEngines$Symbol;" ∈ tb := tb_of (lw_c5 (List.mem_of_getElem? (i := 74) (by decide +kernel))) rfl
theorem q1190 : Cond.methodLink "PinEngines$ProgramReader" (280 : Nat) ({ cls := "PinEngines$ProgramReader", name := "readWays", desc := "(LPinEngines$Instruction;LPinEngines$Symbol;)V" } : Jvm.MethodName) ∈ tb := tb_of (lw_c5 (List.mem_of_getElem? (i := 76) (by decide +kernel))) rfl
theorem q1192 : Cond.instanceMethod ({ cls := "PinEngines$ProgramReader", name := "readWays", desc := "(LPinEngines$Instruction;LPinEngines$Symbol;)V" } : Jvm.MethodName) ∈ tb := tb_of (lw_c5 (List.mem_of_getElem? (i := 78) (by decide +kernel))) rfl
set_option maxRecDepth 100000 in
theorem q1193 : Cond.code ({ cls := "PinEngines$ProgramReader", name := "readWays", desc := "(LPinEngines$Instruction;LPinEngines$Symbol;)V" } : Jvm.MethodName) prog_7_method_13_code (3 : Nat) (Option.none : Option Jvm.ClassFile.FieldType) ∈ tb := tb_of (lw_c5 (List.mem_of_getElem? (i := 79) rfl)) rfl
theorem q1194 : Cond.fieldLink "PinEngines$ProgramReader" (296 : Nat) "PinEngines$Symbol" "NOBLOCK" "LPinEngines$Symbol;" ∈ tb := tb_of (lw_c5 (List.mem_of_getElem? (i := 80) (by decide +kernel))) rfl
theorem q1196 : Cond.fieldLink "PinEngines$ProgramReader" (284 : Nat) "PinEngines$Symbol" "IFEMPTY" "LPinEngines$Symbol;" ∈ tb := tb_of (lw_c5 (List.mem_of_getElem? (i := 82) (by decide +kernel))) rfl
theorem q1198 : Cond.methodLink "PinEngines$ProgramReader" (293 : Nat) ({ cls := "PinEngines$ProgramReader", name := "readPlace", desc := "(LPinEngines$Instruction;)V" } : Jvm.MethodName) ∈ tb := tb_of (lw_c5 (List.mem_of_getElem? (i := 84) (by decide +kernel))) rfl
theorem q1200 : Cond.instanceMethod ({ cls := "PinEngines$ProgramReader", name := "readPlace", desc := "(LPinEngines$Instruction;)V" } : Jvm.MethodName) ∈ tb := tb_of (lw_c5 (List.mem_of_getElem? (i := 86) (by decide +kernel))) rfl
set_option maxRecDepth 100000 in
theorem q1201 : Cond.code ({ cls := "PinEngines$ProgramReader", name := "readPlace", desc := "(LPinEngines$Instruction;)V" } : Jvm.MethodName) prog_7_method_14_code (2 : Nat) (Option.none : Option Jvm.ClassFile.FieldType) ∈ tb := tb_of (lw_c5 (List.mem_of_getElem? (i := 87) rfl)) rfl
theorem q1202 : Cond.fieldLink "PinEngines$ProgramReader" (299 : Nat) "PinEngines$Symbol" "NOTHING" "LPinEngines$Symbol;" ∈ tb := tb_of (lw_c5 (List.mem_of_getElem? (i := 88) (by decide +kernel))) rfl
theorem q1203 : Cond.fieldLink "PinEngines$ProgramReader" (243 : Nat) "PinEngines$Symbol" "SIDE" "LPinEngines$Symbol;" ∈ tb := tb_of (lw_c5 (List.mem_of_getElem? (i := 89) (by decide +kernel))) rfl
theorem q1205 : Cond.fieldLink "PinEngines$ProgramReader" (251 : Nat) "PinEngines$Symbol" "DELAY" "LPinEngines$Symbol;" ∈ tb := tb_of (lw_c5 (List.mem_of_getElem? (i := 91) (by decide +kernel))) rfl
theorem q1207 : Cond.fieldLink "PinEngines$ProgramReader" (81 : Nat) "PinEngines$Symbol" "SEMICOLON" "LPinEngines$Symbol;" ∈ tb := tb_of (lw_c5 (List.mem_of_getElem? (i := 93) (by decide +kernel))) rfl
theorem q1209 : Cond.methodLink "PinEnginesLaw" (158 : Nat) ({ cls := "PinEnginesLaw", name := "level", desc := "(LPinEngines;I[J)I" } : Jvm.MethodName) ∈ tb := tb_of (lw_c5 (List.mem_of_getElem? (i := 95) (by decide +kernel))) rfl
theorem q1212 : Cond.classLink "PinEnginesLaw" (18 : Nat) "java/util/NoSuchElementException" ∈ tb := tb_of (lw_c5 (List.mem_of_getElem? (i := 98) (by decide +kernel))) rfl
theorem q1213 : Cond.methodLink "PinEnginesLaw" (15 : Nat) ({ cls := "PinEngines", name := "level", desc := "(I)I" } : Jvm.MethodName) ∈ tb := tb_of (lw_c5 (List.mem_of_getElem? (i := 99) (by decide +kernel))) rfl
theorem q1217 : Cond.methodLink "PinEngines" (134 : Nat) ({ cls := "PinEngines", name := "checkPin", desc := "(I)V" } : Jvm.MethodName) ∈ tb := tb_of (lw_c5 (List.mem_of_getElem? (i := 103) (by decide +kernel))) rfl
theorem q1218 : Cond.static ({ cls := "PinEngines", name := "checkPin", desc := "(I)V" } : Jvm.MethodName) ∈ tb := tb_of (lw_c5 (List.mem_of_getElem? (i := 104) (by decide +kernel))) rfl
set_option maxRecDepth 100000 in
theorem q1219 : Cond.code ({ cls := "PinEngines", name := "checkPin", desc := "(I)V" } : Jvm.MethodName) prog_1_method_54_code (1 : Nat) (Option.none : Option Jvm.ClassFile.FieldType) ∈ tb := tb_of (lw_c5 (List.mem_of_getElem? (i := 105) rfl)) rfl
theorem q1220 : Cond.classLink "PinEngines" (146 : Nat) "java/util/NoSuchElementException" ∈ tb := tb_of (lw_c5 (List.mem_of_getElem? (i := 106) (by decide +kernel))) rfl
theorem q1221 : Cond.instantiable "java/util/NoSuchElementException" (6 : Nat) ∈ tb := tb_of (lw_c5 (List.mem_of_getElem? (i := 107) (by decide +kernel))) rfl
theorem q1229 : Cond.methodLink "PinEngines" (148 : Nat) ({ cls := "java/util/NoSuchElementException", name := "<init>", desc := "()V" } : Jvm.MethodName) ∈ tb := tb_of (lw_c5 (List.mem_of_getElem? (i := 115) (by decide +kernel))) rfl
