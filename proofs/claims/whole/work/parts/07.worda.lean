/-! the one list of words that every method takes; its words by their places -/
def tb : List Cond := lw_tbl.filter goodWord
theorem tb_good : ∀ w ∈ tb, w ∈ tb ∧ ((w.onTables && w.keeps) = true ∨ ∃ ty, w = .arrayClass ty) := fun w h => ⟨h, good_of_word (List.mem_filter.mp h).2⟩
theorem tb_at {w : Cond} (i : Nat) (h : lw_tbl[i]? = some w) (g : goodWord w = true) : w ∈ tb := List.mem_filter.mpr ⟨List.mem_of_getElem? h, g⟩
/-- a method's words: its code, and the list -/
def wm (y : MethodName) (c : ByteArray) (n : Nat) (r : Option FieldType) : List Cond := .code y c n r :: tb
/-- words that stay, of another sort -/
def nw : Cond → Bool
  | .methodLinkNest _ _ _ _ => true
  | .fieldLinkNest _ _ _ _ _ _ => true
  | .declares _ => true
  | .castable _ _ => true
  | _ => false
def nwL : List Cond := lw_tbl.filter nw
theorem nw_at {w : Cond} (i : Nat) (h : lw_tbl[i]? = some w) (g : nw w = true) : w ∈ nwL := List.mem_filter.mpr ⟨List.mem_of_getElem? h, g⟩
theorem nw_warm {w : Cond} (h : nw w = true) {s U : State} (hW : s.WarmedH U.vm) (hZ : va_Nw w s) : va_Nw w U := by
  cases w <;> first | exact va_Nw.warmM hW hZ | exact va_Nw.warmF hW hZ | exact va_Nw.warmD hW hZ | exact va_Nw.warmC hW hZ | cases h
theorem nw_same {w : Cond} (h : nw w = true) {u U : State} (hv : u.vm = U.vm) (hZ : va_Nw w u) : va_Nw w U := by
  cases w <;> first | exact va_Nw.same rfl hv hZ | cases h
theorem q0 : Cond.selects "PinEngines" ({ cls := "PinEngines", name := "appendBytes", desc := "(I)V" } : Jvm.MethodName) ({ cls := "PinEngines", name := "appendBytes", desc := "(I)V" } : Jvm.MethodName) ∈ tb := tb_at 0 (by decide +kernel) rfl
theorem q1 : Cond.selects "java/lang/Throwable" ({ cls := "java/lang/Throwable", name := "fillInStackTrace", desc := "(I)Ljava/lang/Throwable;" } : Jvm.MethodName) ({ cls := "java/lang/Throwable", name := "fillInStackTrace", desc := "(I)Ljava/lang/Throwable;" } : Jvm.MethodName) ∈ tb := tb_at 1 (by decide +kernel) rfl
theorem q2 : Cond.selects "PinEngines$Tokens" ({ cls := "PinEngines$Tokens", name := "scanToken", desc := "(II)I" } : Jvm.MethodName) ({ cls := "PinEngines$Tokens", name := "scanToken", desc := "(II)I" } : Jvm.MethodName) ∈ tb := tb_at 2 (by decide +kernel) rfl
theorem q3 : Cond.selects "PinEngines$Symbol" ({ cls := "PinEngines$Symbol", name := "isSpelled", desc := "([BII)Z" } : Jvm.MethodName) ({ cls := "PinEngines$Symbol", name := "isSpelled", desc := "([BII)Z" } : Jvm.MethodName) ∈ tb := tb_at 3 (by decide +kernel) rfl
theorem q4 : Cond.selects "PinEngines$ProgramReader" ({ cls := "PinEngines$ProgramReader", name := "readClauses", desc := "()V" } : Jvm.MethodName) ({ cls := "PinEngines$ProgramReader", name := "readClauses", desc := "()V" } : Jvm.MethodName) ∈ tb := tb_at 4 (by decide +kernel) rfl
theorem q5 : Cond.selects "PinEngines$ProgramReader" ({ cls := "PinEngines$ProgramReader", name := "readEngine", desc := "()V" } : Jvm.MethodName) ({ cls := "PinEngines$ProgramReader", name := "readEngine", desc := "()V" } : Jvm.MethodName) ∈ tb := tb_at 5 (by decide +kernel) rfl
theorem q6 : Cond.selects "PinEngines$ProgramReader" ({ cls := "PinEngines$ProgramReader", name := "takeName", desc := "()I" } : Jvm.MethodName) ({ cls := "PinEngines$ProgramReader", name := "takeName", desc := "()I" } : Jvm.MethodName) ∈ tb := tb_at 6 (by decide +kernel) rfl
theorem q7 : Cond.selects "PinEngines$ProgramReader" ({ cls := "PinEngines$ProgramReader", name := "labelAddress", desc := "()I" } : Jvm.MethodName) ({ cls := "PinEngines$ProgramReader", name := "labelAddress", desc := "()I" } : Jvm.MethodName) ∈ tb := tb_at 7 (by decide +kernel) rfl
theorem q8 : Cond.selects "PinEngines$ProgramReader" ({ cls := "PinEngines$ProgramReader", name := "readSetting", desc := "(LPinEngines$Setup;LPinEngines$Symbol;)V" } : Jvm.MethodName) ({ cls := "PinEngines$ProgramReader", name := "readSetting", desc := "(LPinEngines$Setup;LPinEngines$Symbol;)V" } : Jvm.MethodName) ∈ tb := tb_at 8 (by decide +kernel) rfl
theorem q9 : Cond.selects "PinEngines$ProgramReader" ({ cls := "PinEngines$ProgramReader", name := "takePin", desc := "()I" } : Jvm.MethodName) ({ cls := "PinEngines$ProgramReader", name := "takePin", desc := "()I" } : Jvm.MethodName) ∈ tb := tb_at 9 (by decide +kernel) rfl
theorem q10 : Cond.selects "PinEngines$ProgramReader" ({ cls := "PinEngines$ProgramReader", name := "takeGroup", desc := "(II)I" } : Jvm.MethodName) ({ cls := "PinEngines$ProgramReader", name := "takeGroup", desc := "(II)I" } : Jvm.MethodName) ∈ tb := tb_at 10 (by decide +kernel) rfl
theorem q11 : Cond.selects "PinEngines$ProgramReader" ({ cls := "PinEngines$ProgramReader", name := "readShifting", desc := "(LPinEngines$Setup;LPinEngines$Symbol;)V" } : Jvm.MethodName) ({ cls := "PinEngines$ProgramReader", name := "readShifting", desc := "(LPinEngines$Setup;LPinEngines$Symbol;)V" } : Jvm.MethodName) ∈ tb := tb_at 11 (by decide +kernel) rfl
theorem q12 : Cond.selects "PinEngines$ProgramReader" ({ cls := "PinEngines$ProgramReader", name := "readLevel", desc := "()V" } : Jvm.MethodName) ({ cls := "PinEngines$ProgramReader", name := "readLevel", desc := "()V" } : Jvm.MethodName) ∈ tb := tb_at 12 (by decide +kernel) rfl
theorem q13 : Cond.selects "PinEngines$ProgramReader" ({ cls := "PinEngines$ProgramReader", name := "readLabel", desc := "()V" } : Jvm.MethodName) ({ cls := "PinEngines$ProgramReader", name := "readLabel", desc := "()V" } : Jvm.MethodName) ∈ tb := tb_at 13 (by decide +kernel) rfl
theorem q14 : Cond.selects "PinEngines$ProgramReader" ({ cls := "PinEngines$ProgramReader", name := "defineLabel", desc := "()V" } : Jvm.MethodName) ({ cls := "PinEngines$ProgramReader", name := "defineLabel", desc := "()V" } : Jvm.MethodName) ∈ tb := tb_at 14 (by decide +kernel) rfl
theorem q15 : Cond.selects "PinEngines$ProgramReader" ({ cls := "PinEngines$ProgramReader", name := "readInstruction", desc := "()V" } : Jvm.MethodName) ({ cls := "PinEngines$ProgramReader", name := "readInstruction", desc := "()V" } : Jvm.MethodName) ∈ tb := tb_at 15 (by decide +kernel) rfl
theorem q16 : Cond.selects "PinEngines$ProgramReader" ({ cls := "PinEngines$ProgramReader", name := "readOperands", desc := "(LPinEngines$Instruction;)V" } : Jvm.MethodName) ({ cls := "PinEngines$ProgramReader", name := "readOperands", desc := "(LPinEngines$Instruction;)V" } : Jvm.MethodName) ∈ tb := tb_at 16 (by decide +kernel) rfl
theorem q17 : Cond.selects "PinEngines$ProgramReader" ({ cls := "PinEngines$ProgramReader", name := "takeFlag", desc := "()I" } : Jvm.MethodName) ({ cls := "PinEngines$ProgramReader", name := "takeFlag", desc := "()I" } : Jvm.MethodName) ∈ tb := tb_at 17 (by decide +kernel) rfl
theorem q18 : Cond.selects "PinEngines$ProgramReader" ({ cls := "PinEngines$ProgramReader", name := "readWays", desc := "(LPinEngines$Instruction;LPinEngines$Symbol;)V" } : Jvm.MethodName) ({ cls := "PinEngines$ProgramReader", name := "readWays", desc := "(LPinEngines$Instruction;LPinEngines$Symbol;)V" } : Jvm.MethodName) ∈ tb := tb_at 18 (by decide +kernel) rfl
theorem q19 : Cond.selects "PinEngines$ProgramReader" ({ cls := "PinEngines$ProgramReader", name := "readPlace", desc := "(LPinEngines$Instruction;)V" } : Jvm.MethodName) ({ cls := "PinEngines$ProgramReader", name := "readPlace", desc := "(LPinEngines$Instruction;)V" } : Jvm.MethodName) ∈ tb := tb_at 19 (by decide +kernel) rfl
theorem q20 : Cond.selects "PinEngines" ({ cls := "PinEngines", name := "existingEngine", desc := "(I)LPinEngines$Engine;" } : Jvm.MethodName) ({ cls := "PinEngines", name := "existingEngine", desc := "(I)LPinEngines$Engine;" } : Jvm.MethodName) ∈ tb := tb_at 20 (by decide +kernel) rfl
theorem q21 : Cond.selects "PinEngines" ({ cls := "PinEngines", name := "existingQueue", desc := "(IZ)LPinEngines$Queue;" } : Jvm.MethodName) ({ cls := "PinEngines", name := "existingQueue", desc := "(IZ)LPinEngines$Queue;" } : Jvm.MethodName) ∈ tb := tb_at 21 (by decide +kernel) rfl
theorem q22 : Cond.selects "PinEngines" ({ cls := "PinEngines", name := "remember", desc := "()V" } : Jvm.MethodName) ({ cls := "PinEngines", name := "remember", desc := "()V" } : Jvm.MethodName) ∈ tb := tb_at 22 (by decide +kernel) rfl
theorem q23 : Cond.selects "PinEngines$Simulator" ({ cls := "PinEngines$Simulator", name := "tickingEngines", desc := "()I" } : Jvm.MethodName) ({ cls := "PinEngines$Simulator", name := "tickingEngines", desc := "()I" } : Jvm.MethodName) ∈ tb := tb_at 23 (by decide +kernel) rfl
theorem q24 : Cond.selects "PinEngines$Simulator" ({ cls := "PinEngines$Simulator", name := "grantPort", desc := "(I)I" } : Jvm.MethodName) ({ cls := "PinEngines$Simulator", name := "grantPort", desc := "(I)I" } : Jvm.MethodName) ∈ tb := tb_at 24 (by decide +kernel) rfl
theorem q25 : Cond.selects "PinEngines$Simulator" ({ cls := "PinEngines$Simulator", name := "wantsPort", desc := "(LPinEngines$Engine;)Z" } : Jvm.MethodName) ({ cls := "PinEngines$Simulator", name := "wantsPort", desc := "(LPinEngines$Engine;)Z" } : Jvm.MethodName) ∈ tb := tb_at 25 (by decide +kernel) rfl
theorem q26 : Cond.selects "PinEngines$Simulator" ({ cls := "PinEngines$Simulator", name := "doTick", desc := "(LPinEngines$Engine;LPinEngines$Setup;Z)Z" } : Jvm.MethodName) ({ cls := "PinEngines$Simulator", name := "doTick", desc := "(LPinEngines$Engine;LPinEngines$Setup;Z)Z" } : Jvm.MethodName) ∈ tb := tb_at 26 (by decide +kernel) rfl
theorem q27 : Cond.selects "PinEngines$Simulator" ({ cls := "PinEngines$Simulator", name := "access", desc := "(LPinEngines$Instruction;LPinEngines$Engine;Z)I" } : Jvm.MethodName) ({ cls := "PinEngines$Simulator", name := "access", desc := "(LPinEngines$Instruction;LPinEngines$Engine;Z)I" } : Jvm.MethodName) ∈ tb := tb_at 27 (by decide +kernel) rfl
theorem q28 : Cond.selects "PinEngines$Simulator" ({ cls := "PinEngines$Simulator", name := "execute", desc := "(LPinEngines$Instruction;LPinEngines$Engine;LPinEngines$Setup;)I" } : Jvm.MethodName) ({ cls := "PinEngines$Simulator", name := "execute", desc := "(LPinEngines$Instruction;LPinEngines$Engine;LPinEngines$Setup;)I" } : Jvm.MethodName) ∈ tb := tb_at 28 (by decide +kernel) rfl
theorem q29 : Cond.selects "PinEngines$Simulator" ({ cls := "PinEngines$Simulator", name := "holds", desc := "(LPinEngines$Symbol;LPinEngines$Engine;LPinEngines$Setup;)Z" } : Jvm.MethodName) ({ cls := "PinEngines$Simulator", name := "holds", desc := "(LPinEngines$Symbol;LPinEngines$Engine;LPinEngines$Setup;)Z" } : Jvm.MethodName) ∈ tb := tb_at 29 (by decide +kernel) rfl
theorem q30 : Cond.selects "PinEngines$Simulator" ({ cls := "PinEngines$Simulator", name := "awaitLevel", desc := "(LPinEngines$Instruction;LPinEngines$Setup;)I" } : Jvm.MethodName) ({ cls := "PinEngines$Simulator", name := "awaitLevel", desc := "(LPinEngines$Instruction;LPinEngines$Setup;)I" } : Jvm.MethodName) ∈ tb := tb_at 30 (by decide +kernel) rfl
theorem q31 : Cond.selects "PinEngines$Simulator" ({ cls := "PinEngines$Simulator", name := "shiftIn", desc := "(LPinEngines$Instruction;LPinEngines$Engine;LPinEngines$Setup;)I" } : Jvm.MethodName) ({ cls := "PinEngines$Simulator", name := "shiftIn", desc := "(LPinEngines$Instruction;LPinEngines$Engine;LPinEngines$Setup;)I" } : Jvm.MethodName) ∈ tb := tb_at 31 (by decide +kernel) rfl
theorem q32 : Cond.selects "PinEngines$Simulator" ({ cls := "PinEngines$Simulator", name := "sourceWord", desc := "(LPinEngines$Symbol;LPinEngines$Engine;LPinEngines$Setup;)I" } : Jvm.MethodName) ({ cls := "PinEngines$Simulator", name := "sourceWord", desc := "(LPinEngines$Symbol;LPinEngines$Engine;LPinEngines$Setup;)I" } : Jvm.MethodName) ∈ tb := tb_at 32 (by decide +kernel) rfl
theorem q33 : Cond.selects "PinEngines$Simulator" ({ cls := "PinEngines$Simulator", name := "shiftOut", desc := "(LPinEngines$Instruction;LPinEngines$Engine;LPinEngines$Setup;)I" } : Jvm.MethodName) ({ cls := "PinEngines$Simulator", name := "shiftOut", desc := "(LPinEngines$Instruction;LPinEngines$Engine;LPinEngines$Setup;)I" } : Jvm.MethodName) ∈ tb := tb_at 33 (by decide +kernel) rfl
theorem q34 : Cond.selects "PinEngines$Simulator" ({ cls := "PinEngines$Simulator", name := "deliver", desc := "(LPinEngines$Symbol;ILPinEngines$Engine;LPinEngines$Setup;)V" } : Jvm.MethodName) ({ cls := "PinEngines$Simulator", name := "deliver", desc := "(LPinEngines$Symbol;ILPinEngines$Engine;LPinEngines$Setup;)V" } : Jvm.MethodName) ∈ tb := tb_at 34 (by decide +kernel) rfl
theorem q35 : Cond.selects "PinEngines$Simulator" ({ cls := "PinEngines$Simulator", name := "push", desc := "(LPinEngines$Instruction;LPinEngines$Engine;LPinEngines$Setup;)I" } : Jvm.MethodName) ({ cls := "PinEngines$Simulator", name := "push", desc := "(LPinEngines$Instruction;LPinEngines$Engine;LPinEngines$Setup;)I" } : Jvm.MethodName) ∈ tb := tb_at 35 (by decide +kernel) rfl
theorem q36 : Cond.selects "PinEngines$Simulator" ({ cls := "PinEngines$Simulator", name := "pull", desc := "(LPinEngines$Instruction;LPinEngines$Engine;LPinEngines$Setup;)I" } : Jvm.MethodName) ({ cls := "PinEngines$Simulator", name := "pull", desc := "(LPinEngines$Instruction;LPinEngines$Engine;LPinEngines$Setup;)I" } : Jvm.MethodName) ∈ tb := tb_at 36 (by decide +kernel) rfl
theorem q37 : Cond.selects "PinEngines$Simulator" ({ cls := "PinEngines$Simulator", name := "moved", desc := "(LPinEngines$Instruction;LPinEngines$Engine;LPinEngines$Setup;)I" } : Jvm.MethodName) ({ cls := "PinEngines$Simulator", name := "moved", desc := "(LPinEngines$Instruction;LPinEngines$Engine;LPinEngines$Setup;)I" } : Jvm.MethodName) ∈ tb := tb_at 37 (by decide +kernel) rfl
theorem q38 : Cond.selects "PinEngines$Simulator" ({ cls := "PinEngines$Simulator", name := "signal", desc := "(LPinEngines$Instruction;LPinEngines$Engine;)I" } : Jvm.MethodName) ({ cls := "PinEngines$Simulator", name := "signal", desc := "(LPinEngines$Instruction;LPinEngines$Engine;)I" } : Jvm.MethodName) ∈ tb := tb_at 38 (by decide +kernel) rfl
theorem q39 : Cond.selects "PinEngines$Simulator" ({ cls := "PinEngines$Simulator", name := "set", desc := "(LPinEngines$Instruction;LPinEngines$Engine;LPinEngines$Setup;)V" } : Jvm.MethodName) ({ cls := "PinEngines$Simulator", name := "set", desc := "(LPinEngines$Instruction;LPinEngines$Engine;LPinEngines$Setup;)V" } : Jvm.MethodName) ∈ tb := tb_at 39 (by decide +kernel) rfl
theorem q40 : Cond.selects "PinEngines" ({ cls := "PinEngines", name := "checkAddress", desc := "(I)V" } : Jvm.MethodName) ({ cls := "PinEngines", name := "checkAddress", desc := "(I)V" } : Jvm.MethodName) ∈ tb := tb_at 40 (by decide +kernel) rfl
theorem q41 : Cond.selects "PinEngines" ({ cls := "PinEngines", name := "idleEngines", desc := "()I" } : Jvm.MethodName) ({ cls := "PinEngines", name := "idleEngines", desc := "()I" } : Jvm.MethodName) ∈ tb := tb_at 41 (by decide +kernel) rfl
theorem q42 : Cond.selects "PinEngines$QueryReader" ({ cls := "PinEngines$QueryReader", name := "readTest", desc := "(I)I" } : Jvm.MethodName) ({ cls := "PinEngines$QueryReader", name := "readTest", desc := "(I)I" } : Jvm.MethodName) ∈ tb := tb_at 42 (by decide +kernel) rfl
theorem q43 : Cond.selects "PinEngines$QueryReader" ({ cls := "PinEngines$QueryReader", name := "readConjunction", desc := "(I)I" } : Jvm.MethodName) ({ cls := "PinEngines$QueryReader", name := "readConjunction", desc := "(I)I" } : Jvm.MethodName) ∈ tb := tb_at 43 (by decide +kernel) rfl
theorem q44 : Cond.selects "PinEngines$QueryReader" ({ cls := "PinEngines$QueryReader", name := "readFactor", desc := "(I)I" } : Jvm.MethodName) ({ cls := "PinEngines$QueryReader", name := "readFactor", desc := "(I)I" } : Jvm.MethodName) ∈ tb := tb_at 44 (by decide +kernel) rfl
theorem q45 : Cond.selects "PinEngines$QueryReader" ({ cls := "PinEngines$QueryReader", name := "readComparison", desc := "()I" } : Jvm.MethodName) ({ cls := "PinEngines$QueryReader", name := "readComparison", desc := "()I" } : Jvm.MethodName) ∈ tb := tb_at 45 (by decide +kernel) rfl
theorem q46 : Cond.selects "PinEngines$QueryReader" ({ cls := "PinEngines$QueryReader", name := "readValue", desc := "([I)V" } : Jvm.MethodName) ({ cls := "PinEngines$QueryReader", name := "readValue", desc := "([I)V" } : Jvm.MethodName) ∈ tb := tb_at 46 (by decide +kernel) rfl
theorem q47 : Cond.selects "PinEngines$QueryReader" ({ cls := "PinEngines$QueryReader", name := "propertyOf", desc := "(ILPinEngines$Symbol;)I" } : Jvm.MethodName) ({ cls := "PinEngines$QueryReader", name := "propertyOf", desc := "(ILPinEngines$Symbol;)I" } : Jvm.MethodName) ∈ tb := tb_at 47 (by decide +kernel) rfl
theorem q48 : Cond.selects "PinEnginesModel" ({ cls := "PinEnginesModel", name := "setting", desc := "(II)I" } : Jvm.MethodName) ({ cls := "PinEnginesModel", name := "setting", desc := "(II)I" } : Jvm.MethodName) ∈ tb := tb_at 48 (by decide +kernel) rfl
theorem q49 : Cond.selects "PinEnginesModel" ({ cls := "PinEnginesModel", name := "raise", desc := "(I)I" } : Jvm.MethodName) ({ cls := "PinEnginesModel", name := "raise", desc := "(I)I" } : Jvm.MethodName) ∈ tb := tb_at 49 (by decide +kernel) rfl
theorem q50 : Cond.selects "PinEnginesModel" ({ cls := "PinEnginesModel", name := "levelOf", desc := "(I)I" } : Jvm.MethodName) ({ cls := "PinEnginesModel", name := "levelOf", desc := "(I)I" } : Jvm.MethodName) ∈ tb := tb_at 50 (by decide +kernel) rfl
theorem q51 : Cond.selects "PinEnginesModel" ({ cls := "PinEnginesModel", name := "ofPin", desc := "(II)I" } : Jvm.MethodName) ({ cls := "PinEnginesModel", name := "ofPin", desc := "(II)I" } : Jvm.MethodName) ∈ tb := tb_at 51 (by decide +kernel) rfl
theorem q52 : Cond.selects "PinEnginesModel" ({ cls := "PinEnginesModel", name := "tellPin", desc := "(II)I" } : Jvm.MethodName) ({ cls := "PinEnginesModel", name := "tellPin", desc := "(II)I" } : Jvm.MethodName) ∈ tb := tb_at 52 (by decide +kernel) rfl
theorem q53 : Cond.selects "PinEnginesModel" ({ cls := "PinEnginesModel", name := "tell", desc := "(II)I" } : Jvm.MethodName) ({ cls := "PinEnginesModel", name := "tell", desc := "(II)I" } : Jvm.MethodName) ∈ tb := tb_at 53 (by decide +kernel) rfl
theorem q54 : Cond.selects "PinEnginesModel" ({ cls := "PinEnginesModel", name := "exists", desc := "(I)Z" } : Jvm.MethodName) ({ cls := "PinEnginesModel", name := "exists", desc := "(I)Z" } : Jvm.MethodName) ∈ tb := tb_at 54 (by decide +kernel) rfl
theorem q55 : Cond.selects "PinEnginesModel" ({ cls := "PinEnginesModel", name := "of", desc := "(II)I" } : Jvm.MethodName) ({ cls := "PinEnginesModel", name := "of", desc := "(II)I" } : Jvm.MethodName) ∈ tb := tb_at 55 (by decide +kernel) rfl
theorem q56 : Cond.selects "PinEnginesModel" ({ cls := "PinEnginesModel", name := "isFull", desc := "(IZ)Z" } : Jvm.MethodName) ({ cls := "PinEnginesModel", name := "isFull", desc := "(IZ)Z" } : Jvm.MethodName) ∈ tb := tb_at 56 (by decide +kernel) rfl
theorem q57 : Cond.selects "PinEnginesModel" ({ cls := "PinEnginesModel", name := "record", desc := "()V" } : Jvm.MethodName) ({ cls := "PinEnginesModel", name := "record", desc := "()V" } : Jvm.MethodName) ∈ tb := tb_at 57 (by decide +kernel) rfl
theorem q58 : Cond.selects "PinEnginesModel" ({ cls := "PinEnginesModel", name := "append", desc := "(IZI)V" } : Jvm.MethodName) ({ cls := "PinEnginesModel", name := "append", desc := "(IZI)V" } : Jvm.MethodName) ∈ tb := tb_at 58 (by decide +kernel) rfl
theorem q59 : Cond.selects "PinEnginesModel" ({ cls := "PinEnginesModel", name := "set", desc := "(III)V" } : Jvm.MethodName) ({ cls := "PinEnginesModel", name := "set", desc := "(III)V" } : Jvm.MethodName) ∈ tb := tb_at 59 (by decide +kernel) rfl
theorem q60 : Cond.selects "PinEnginesModel" ({ cls := "PinEnginesModel", name := "add", desc := "(III)V" } : Jvm.MethodName) ({ cls := "PinEnginesModel", name := "add", desc := "(III)V" } : Jvm.MethodName) ∈ tb := tb_at 60 (by decide +kernel) rfl
theorem q61 : Cond.selects "PinEnginesModel" ({ cls := "PinEnginesModel", name := "removeFirst", desc := "(IZ)I" } : Jvm.MethodName) ({ cls := "PinEnginesModel", name := "removeFirst", desc := "(IZ)I" } : Jvm.MethodName) ∈ tb := tb_at 61 (by decide +kernel) rfl
theorem q62 : Cond.selects "PinEnginesModel" ({ cls := "PinEnginesModel", name := "begin", desc := "(I)V" } : Jvm.MethodName) ({ cls := "PinEnginesModel", name := "begin", desc := "(I)V" } : Jvm.MethodName) ∈ tb := tb_at 62 (by decide +kernel) rfl
theorem q63 : Cond.selects "PinEnginesModel" ({ cls := "PinEnginesModel", name := "putPin", desc := "(III)V" } : Jvm.MethodName) ({ cls := "PinEnginesModel", name := "putPin", desc := "(III)V" } : Jvm.MethodName) ∈ tb := tb_at 63 (by decide +kernel) rfl
theorem q64 : Cond.selects "PinEnginesModel" ({ cls := "PinEnginesModel", name := "doneByAll", desc := "()I" } : Jvm.MethodName) ({ cls := "PinEnginesModel", name := "doneByAll", desc := "()I" } : Jvm.MethodName) ∈ tb := tb_at 64 (by decide +kernel) rfl
theorem q65 : Cond.selects "PinEnginesModel" ({ cls := "PinEnginesModel", name := "passCycle", desc := "()V" } : Jvm.MethodName) ({ cls := "PinEnginesModel", name := "passCycle", desc := "()V" } : Jvm.MethodName) ∈ tb := tb_at 65 (by decide +kernel) rfl
theorem q66 : Cond.selects "PinEnginesModel" ({ cls := "PinEnginesModel", name := "applyScheduled", desc := "()V" } : Jvm.MethodName) ({ cls := "PinEnginesModel", name := "applyScheduled", desc := "()V" } : Jvm.MethodName) ∈ tb := tb_at 66 (by decide +kernel) rfl
theorem q67 : Cond.selects "PinEnginesModel" ({ cls := "PinEnginesModel", name := "readAll", desc := "()V" } : Jvm.MethodName) ({ cls := "PinEnginesModel", name := "readAll", desc := "()V" } : Jvm.MethodName) ∈ tb := tb_at 67 (by decide +kernel) rfl
theorem q68 : Cond.selects "PinEnginesModel" ({ cls := "PinEnginesModel", name := "countOn", desc := "(I)V" } : Jvm.MethodName) ({ cls := "PinEnginesModel", name := "countOn", desc := "(I)V" } : Jvm.MethodName) ∈ tb := tb_at 68 (by decide +kernel) rfl
theorem q69 : Cond.selects "PinEnginesModel" ({ cls := "PinEnginesModel", name := "givePort", desc := "()V" } : Jvm.MethodName) ({ cls := "PinEnginesModel", name := "givePort", desc := "()V" } : Jvm.MethodName) ∈ tb := tb_at 69 (by decide +kernel) rfl
theorem q70 : Cond.selects "PinEnginesModel" ({ cls := "PinEnginesModel", name := "wantsPort", desc := "(I)Z" } : Jvm.MethodName) ({ cls := "PinEnginesModel", name := "wantsPort", desc := "(I)Z" } : Jvm.MethodName) ∈ tb := tb_at 70 (by decide +kernel) rfl
theorem q71 : Cond.selects "PinEnginesModel" ({ cls := "PinEnginesModel", name := "codeOf", desc := "(II)I" } : Jvm.MethodName) ({ cls := "PinEnginesModel", name := "codeOf", desc := "(II)I" } : Jvm.MethodName) ∈ tb := tb_at 71 (by decide +kernel) rfl
theorem q72 : Cond.selects "PinEnginesModel" ({ cls := "PinEnginesModel", name := "code", desc := "(II)I" } : Jvm.MethodName) ({ cls := "PinEnginesModel", name := "code", desc := "(II)I" } : Jvm.MethodName) ∈ tb := tb_at 72 (by decide +kernel) rfl
theorem q73 : Cond.selects "PinEnginesModel" ({ cls := "PinEnginesModel", name := "tick", desc := "(I)V" } : Jvm.MethodName) ({ cls := "PinEnginesModel", name := "tick", desc := "(I)V" } : Jvm.MethodName) ∈ tb := tb_at 73 (by decide +kernel) rfl
theorem q74 : Cond.selects "PinEnginesModel" ({ cls := "PinEnginesModel", name := "note", desc := "(II)V" } : Jvm.MethodName) ({ cls := "PinEnginesModel", name := "note", desc := "(II)V" } : Jvm.MethodName) ∈ tb := tb_at 74 (by decide +kernel) rfl
theorem q75 : Cond.selects "PinEnginesModel" ({ cls := "PinEnginesModel", name := "execute", desc := "(I)I" } : Jvm.MethodName) ({ cls := "PinEnginesModel", name := "execute", desc := "(I)I" } : Jvm.MethodName) ∈ tb := tb_at 75 (by decide +kernel) rfl
theorem q76 : Cond.selects "PinEnginesModel" ({ cls := "PinEnginesModel", name := "jump", desc := "(II)I" } : Jvm.MethodName) ({ cls := "PinEnginesModel", name := "jump", desc := "(II)I" } : Jvm.MethodName) ∈ tb := tb_at 76 (by decide +kernel) rfl
theorem q77 : Cond.selects "PinEnginesModel" ({ cls := "PinEnginesModel", name := "holds", desc := "(II)Z" } : Jvm.MethodName) ({ cls := "PinEnginesModel", name := "holds", desc := "(II)Z" } : Jvm.MethodName) ∈ tb := tb_at 77 (by decide +kernel) rfl
theorem q78 : Cond.selects "PinEnginesModel" ({ cls := "PinEnginesModel", name := "decrease", desc := "(II)Z" } : Jvm.MethodName) ({ cls := "PinEnginesModel", name := "decrease", desc := "(II)Z" } : Jvm.MethodName) ∈ tb := tb_at 78 (by decide +kernel) rfl
theorem q79 : Cond.selects "PinEnginesModel" ({ cls := "PinEnginesModel", name := "waitFor", desc := "(II)I" } : Jvm.MethodName) ({ cls := "PinEnginesModel", name := "waitFor", desc := "(II)I" } : Jvm.MethodName) ∈ tb := tb_at 79 (by decide +kernel) rfl
theorem q80 : Cond.selects "PinEnginesModel" ({ cls := "PinEnginesModel", name := "source", desc := "(II)I" } : Jvm.MethodName) ({ cls := "PinEnginesModel", name := "source", desc := "(II)I" } : Jvm.MethodName) ∈ tb := tb_at 80 (by decide +kernel) rfl
theorem q81 : Cond.selects "PinEnginesModel" ({ cls := "PinEnginesModel", name := "pinValue", desc := "(I)I" } : Jvm.MethodName) ({ cls := "PinEnginesModel", name := "pinValue", desc := "(I)I" } : Jvm.MethodName) ∈ tb := tb_at 81 (by decide +kernel) rfl
theorem q82 : Cond.selects "PinEnginesModel" ({ cls := "PinEnginesModel", name := "shiftIn", desc := "(III)I" } : Jvm.MethodName) ({ cls := "PinEnginesModel", name := "shiftIn", desc := "(III)I" } : Jvm.MethodName) ∈ tb := tb_at 82 (by decide +kernel) rfl
theorem q83 : Cond.selects "PinEnginesModel" ({ cls := "PinEnginesModel", name := "appendShifted", desc := "(I)V" } : Jvm.MethodName) ({ cls := "PinEnginesModel", name := "appendShifted", desc := "(I)V" } : Jvm.MethodName) ∈ tb := tb_at 83 (by decide +kernel) rfl
theorem q84 : Cond.selects "PinEnginesModel" ({ cls := "PinEnginesModel", name := "emptyShifted", desc := "(I)V" } : Jvm.MethodName) ({ cls := "PinEnginesModel", name := "emptyShifted", desc := "(I)V" } : Jvm.MethodName) ∈ tb := tb_at 84 (by decide +kernel) rfl
theorem q85 : Cond.selects "PinEnginesModel" ({ cls := "PinEnginesModel", name := "shiftOut", desc := "(III)I" } : Jvm.MethodName) ({ cls := "PinEnginesModel", name := "shiftOut", desc := "(III)I" } : Jvm.MethodName) ∈ tb := tb_at 85 (by decide +kernel) rfl
theorem q86 : Cond.selects "PinEnginesModel" ({ cls := "PinEnginesModel", name := "refill", desc := "(I)V" } : Jvm.MethodName) ({ cls := "PinEnginesModel", name := "refill", desc := "(I)V" } : Jvm.MethodName) ∈ tb := tb_at 86 (by decide +kernel) rfl
theorem q87 : Cond.selects "PinEnginesModel" ({ cls := "PinEnginesModel", name := "write", desc := "(IIII)I" } : Jvm.MethodName) ({ cls := "PinEnginesModel", name := "write", desc := "(IIII)I" } : Jvm.MethodName) ∈ tb := tb_at 87 (by decide +kernel) rfl
theorem q88 : Cond.selects "PinEnginesModel" ({ cls := "PinEnginesModel", name := "jumpToWord", desc := "(I)V" } : Jvm.MethodName) ({ cls := "PinEnginesModel", name := "jumpToWord", desc := "(I)V" } : Jvm.MethodName) ∈ tb := tb_at 88 (by decide +kernel) rfl
theorem q89 : Cond.selects "PinEnginesModel" ({ cls := "PinEnginesModel", name := "push", desc := "(IZZ)I" } : Jvm.MethodName) ({ cls := "PinEnginesModel", name := "push", desc := "(IZZ)I" } : Jvm.MethodName) ∈ tb := tb_at 89 (by decide +kernel) rfl
theorem q90 : Cond.selects "PinEnginesModel" ({ cls := "PinEnginesModel", name := "pull", desc := "(IZZ)I" } : Jvm.MethodName) ({ cls := "PinEnginesModel", name := "pull", desc := "(IZZ)I" } : Jvm.MethodName) ∈ tb := tb_at 90 (by decide +kernel) rfl
theorem q91 : Cond.selects "PinEnginesModel" ({ cls := "PinEnginesModel", name := "move", desc := "(IIII)I" } : Jvm.MethodName) ({ cls := "PinEnginesModel", name := "move", desc := "(IIII)I" } : Jvm.MethodName) ∈ tb := tb_at 91 (by decide +kernel) rfl
theorem q92 : Cond.selects "PinEnginesModel" ({ cls := "PinEnginesModel", name := "signal", desc := "(II)I" } : Jvm.MethodName) ({ cls := "PinEnginesModel", name := "signal", desc := "(II)I" } : Jvm.MethodName) ∈ tb := tb_at 92 (by decide +kernel) rfl
theorem q93 : Cond.selects "PinEnginesModel" ({ cls := "PinEnginesModel", name := "assign", desc := "(III)I" } : Jvm.MethodName) ({ cls := "PinEnginesModel", name := "assign", desc := "(III)I" } : Jvm.MethodName) ∈ tb := tb_at 93 (by decide +kernel) rfl
theorem q94 : Cond.selects "PinEnginesModel" ({ cls := "PinEnginesModel", name := "access", desc := "(II)I" } : Jvm.MethodName) ({ cls := "PinEnginesModel", name := "access", desc := "(II)I" } : Jvm.MethodName) ∈ tb := tb_at 94 (by decide +kernel) rfl
theorem q95 : Cond.selects "PinEnginesModel" ({ cls := "PinEnginesModel", name := "nextAddress", desc := "(I)I" } : Jvm.MethodName) ({ cls := "PinEnginesModel", name := "nextAddress", desc := "(I)I" } : Jvm.MethodName) ∈ tb := tb_at 95 (by decide +kernel) rfl
theorem q96 : Cond.selects "PinEnginesModel" ({ cls := "PinEnginesModel", name := "writeAll", desc := "(I)V" } : Jvm.MethodName) ({ cls := "PinEnginesModel", name := "writeAll", desc := "(I)V" } : Jvm.MethodName) ∈ tb := tb_at 96 (by decide +kernel) rfl
theorem q97 : Cond.selects "PinEnginesModel" ({ cls := "PinEnginesModel", name := "writeBits", desc := "(IIIZ)V" } : Jvm.MethodName) ({ cls := "PinEnginesModel", name := "writeBits", desc := "(IIIZ)V" } : Jvm.MethodName) ∈ tb := tb_at 97 (by decide +kernel) rfl
theorem q98 : Cond.selects "PinEnginesModel" ({ cls := "PinEnginesModel", name := "recordLevels", desc := "()V" } : Jvm.MethodName) ({ cls := "PinEnginesModel", name := "recordLevels", desc := "()V" } : Jvm.MethodName) ∈ tb := tb_at 98 (by decide +kernel) rfl
theorem q99 : Cond.selects "PinEnginesModel" ({ cls := "PinEnginesModel", name := "startText", desc := "(I)V" } : Jvm.MethodName) ({ cls := "PinEnginesModel", name := "startText", desc := "(I)V" } : Jvm.MethodName) ∈ tb := tb_at 99 (by decide +kernel) rfl
theorem q100 : Cond.selects "PinEnginesModel" ({ cls := "PinEnginesModel", name := "scan", desc := "()V" } : Jvm.MethodName) ({ cls := "PinEnginesModel", name := "scan", desc := "()V" } : Jvm.MethodName) ∈ tb := tb_at 100 (by decide +kernel) rfl
theorem q101 : Cond.selects "PinEnginesModel" ({ cls := "PinEnginesModel", name := "byteAt", desc := "(I)I" } : Jvm.MethodName) ({ cls := "PinEnginesModel", name := "byteAt", desc := "(I)I" } : Jvm.MethodName) ∈ tb := tb_at 101 (by decide +kernel) rfl
theorem q102 : Cond.selects "PinEnginesModel" ({ cls := "PinEnginesModel", name := "isLetter", desc := "(I)Z" } : Jvm.MethodName) ({ cls := "PinEnginesModel", name := "isLetter", desc := "(I)Z" } : Jvm.MethodName) ∈ tb := tb_at 102 (by decide +kernel) rfl
theorem q103 : Cond.selects "PinEnginesModel" ({ cls := "PinEnginesModel", name := "isDigit", desc := "(I)Z" } : Jvm.MethodName) ({ cls := "PinEnginesModel", name := "isDigit", desc := "(I)Z" } : Jvm.MethodName) ∈ tb := tb_at 103 (by decide +kernel) rfl
theorem q104 : Cond.selects "PinEnginesModel" ({ cls := "PinEnginesModel", name := "readClause", desc := "()V" } : Jvm.MethodName) ({ cls := "PinEnginesModel", name := "readClause", desc := "()V" } : Jvm.MethodName) ∈ tb := tb_at 104 (by decide +kernel) rfl
theorem q105 : Cond.selects "PinEnginesModel" ({ cls := "PinEnginesModel", name := "accept", desc := "(Ljava/lang/String;)Z" } : Jvm.MethodName) ({ cls := "PinEnginesModel", name := "accept", desc := "(Ljava/lang/String;)Z" } : Jvm.MethodName) ∈ tb := tb_at 105 (by decide +kernel) rfl
theorem q106 : Cond.selects "PinEnginesModel" ({ cls := "PinEnginesModel", name := "isWord", desc := "(Ljava/lang/String;)Z" } : Jvm.MethodName) ({ cls := "PinEnginesModel", name := "isWord", desc := "(Ljava/lang/String;)Z" } : Jvm.MethodName) ∈ tb := tb_at 106 (by decide +kernel) rfl
theorem q107 : Cond.selects "PinEnginesModel" ({ cls := "PinEnginesModel", name := "readEngine", desc := "()V" } : Jvm.MethodName) ({ cls := "PinEnginesModel", name := "readEngine", desc := "()V" } : Jvm.MethodName) ∈ tb := tb_at 107 (by decide +kernel) rfl
theorem q108 : Cond.selects "PinEnginesModel" ({ cls := "PinEnginesModel", name := "check", desc := "(ZI)V" } : Jvm.MethodName) ({ cls := "PinEnginesModel", name := "check", desc := "(ZI)V" } : Jvm.MethodName) ∈ tb := tb_at 108 (by decide +kernel) rfl
theorem q109 : Cond.selects "PinEnginesModel" ({ cls := "PinEnginesModel", name := "fail", desc := "(I)V" } : Jvm.MethodName) ({ cls := "PinEnginesModel", name := "fail", desc := "(I)V" } : Jvm.MethodName) ∈ tb := tb_at 109 (by decide +kernel) rfl
theorem q110 : Cond.selects "PinEnginesModel" ({ cls := "PinEnginesModel", name := "value", desc := "()I" } : Jvm.MethodName) ({ cls := "PinEnginesModel", name := "value", desc := "()I" } : Jvm.MethodName) ∈ tb := tb_at 110 (by decide +kernel) rfl
theorem q111 : Cond.selects "PinEnginesModel" ({ cls := "PinEnginesModel", name := "advance", desc := "()V" } : Jvm.MethodName) ({ cls := "PinEnginesModel", name := "advance", desc := "()V" } : Jvm.MethodName) ∈ tb := tb_at 111 (by decide +kernel) rfl
theorem q112 : Cond.selects "PinEnginesModel" ({ cls := "PinEnginesModel", name := "expectWord", desc := "(Ljava/lang/String;)V" } : Jvm.MethodName) ({ cls := "PinEnginesModel", name := "expectWord", desc := "(Ljava/lang/String;)V" } : Jvm.MethodName) ∈ tb := tb_at 112 (by decide +kernel) rfl
theorem q113 : Cond.selects "PinEnginesModel" ({ cls := "PinEnginesModel", name := "readName", desc := "(I)V" } : Jvm.MethodName) ({ cls := "PinEnginesModel", name := "readName", desc := "(I)V" } : Jvm.MethodName) ∈ tb := tb_at 113 (by decide +kernel) rfl
theorem q114 : Cond.selects "PinEnginesModel" ({ cls := "PinEnginesModel", name := "isName", desc := "()Z" } : Jvm.MethodName) ({ cls := "PinEnginesModel", name := "isName", desc := "()Z" } : Jvm.MethodName) ∈ tb := tb_at 114 (by decide +kernel) rfl
theorem q115 : Cond.selects "PinEnginesModel" ({ cls := "PinEnginesModel", name := "indexIn", desc := "([Ljava/lang/String;)I" } : Jvm.MethodName) ({ cls := "PinEnginesModel", name := "indexIn", desc := "([Ljava/lang/String;)I" } : Jvm.MethodName) ∈ tb := tb_at 115 (by decide +kernel) rfl
theorem q116 : Cond.selects "PinEnginesModel" ({ cls := "PinEnginesModel", name := "readSetting", desc := "(I)Z" } : Jvm.MethodName) ({ cls := "PinEnginesModel", name := "readSetting", desc := "(I)Z" } : Jvm.MethodName) ∈ tb := tb_at 116 (by decide +kernel) rfl
theorem q117 : Cond.selects "PinEnginesModel" ({ cls := "PinEnginesModel", name := "readClock", desc := "(I)V" } : Jvm.MethodName) ({ cls := "PinEnginesModel", name := "readClock", desc := "(I)V" } : Jvm.MethodName) ∈ tb := tb_at 117 (by decide +kernel) rfl
theorem q118 : Cond.selects "PinEnginesModel" ({ cls := "PinEnginesModel", name := "number", desc := "(II)I" } : Jvm.MethodName) ({ cls := "PinEnginesModel", name := "number", desc := "(II)I" } : Jvm.MethodName) ∈ tb := tb_at 118 (by decide +kernel) rfl
theorem q119 : Cond.selects "PinEnginesModel" ({ cls := "PinEnginesModel", name := "readGroup", desc := "(II)V" } : Jvm.MethodName) ({ cls := "PinEnginesModel", name := "readGroup", desc := "(II)V" } : Jvm.MethodName) ∈ tb := tb_at 119 (by decide +kernel) rfl
theorem q120 : Cond.selects "PinEnginesModel" ({ cls := "PinEnginesModel", name := "putNumber", desc := "(III)V" } : Jvm.MethodName) ({ cls := "PinEnginesModel", name := "putNumber", desc := "(III)V" } : Jvm.MethodName) ∈ tb := tb_at 120 (by decide +kernel) rfl
theorem q121 : Cond.selects "PinEnginesModel" ({ cls := "PinEnginesModel", name := "readLimit", desc := "(I)V" } : Jvm.MethodName) ({ cls := "PinEnginesModel", name := "readLimit", desc := "(I)V" } : Jvm.MethodName) ∈ tb := tb_at 121 (by decide +kernel) rfl
theorem q122 : Cond.selects "PinEnginesModel" ({ cls := "PinEnginesModel", name := "join", desc := "(II)V" } : Jvm.MethodName) ({ cls := "PinEnginesModel", name := "join", desc := "(II)V" } : Jvm.MethodName) ∈ tb := tb_at 122 (by decide +kernel) rfl
theorem q123 : Cond.selects "PinEnginesModel" ({ cls := "PinEnginesModel", name := "readFlag", desc := "(ILjava/lang/String;)Z" } : Jvm.MethodName) ({ cls := "PinEnginesModel", name := "readFlag", desc := "(ILjava/lang/String;)Z" } : Jvm.MethodName) ∈ tb := tb_at 123 (by decide +kernel) rfl
theorem q124 : Cond.selects "PinEnginesModel" ({ cls := "PinEnginesModel", name := "readLevel", desc := "()V" } : Jvm.MethodName) ({ cls := "PinEnginesModel", name := "readLevel", desc := "()V" } : Jvm.MethodName) ∈ tb := tb_at 124 (by decide +kernel) rfl
theorem q125 : Cond.selects "PinEnginesModel" ({ cls := "PinEnginesModel", name := "readInstruction", desc := "()V" } : Jvm.MethodName) ({ cls := "PinEnginesModel", name := "readInstruction", desc := "()V" } : Jvm.MethodName) ∈ tb := tb_at 125 (by decide +kernel) rfl
theorem q126 : Cond.selects "PinEnginesModel" ({ cls := "PinEnginesModel", name := "readLabel", desc := "()V" } : Jvm.MethodName) ({ cls := "PinEnginesModel", name := "readLabel", desc := "()V" } : Jvm.MethodName) ∈ tb := tb_at 126 (by decide +kernel) rfl
theorem q127 : Cond.selects "PinEnginesModel" ({ cls := "PinEnginesModel", name := "labelled", desc := "(III)I" } : Jvm.MethodName) ({ cls := "PinEnginesModel", name := "labelled", desc := "(III)I" } : Jvm.MethodName) ∈ tb := tb_at 127 (by decide +kernel) rfl
theorem q128 : Cond.selects "PinEnginesModel" ({ cls := "PinEnginesModel", name := "isSame", desc := "(III)Z" } : Jvm.MethodName) ({ cls := "PinEnginesModel", name := "isSame", desc := "(III)Z" } : Jvm.MethodName) ∈ tb := tb_at 128 (by decide +kernel) rfl
theorem q129 : Cond.selects "PinEnginesModel" ({ cls := "PinEnginesModel", name := "expect", desc := "(I)V" } : Jvm.MethodName) ({ cls := "PinEnginesModel", name := "expect", desc := "(I)V" } : Jvm.MethodName) ∈ tb := tb_at 129 (by decide +kernel) rfl
theorem q130 : Cond.selects "PinEnginesModel" ({ cls := "PinEnginesModel", name := "isSymbol", desc := "(I)Z" } : Jvm.MethodName) ({ cls := "PinEnginesModel", name := "isSymbol", desc := "(I)Z" } : Jvm.MethodName) ∈ tb := tb_at 130 (by decide +kernel) rfl
theorem q131 : Cond.selects "PinEnginesModel" ({ cls := "PinEnginesModel", name := "readOperands", desc := "(II)V" } : Jvm.MethodName) ({ cls := "PinEnginesModel", name := "readOperands", desc := "(II)V" } : Jvm.MethodName) ∈ tb := tb_at 131 (by decide +kernel) rfl
theorem q132 : Cond.selects "PinEnginesModel" ({ cls := "PinEnginesModel", name := "readJump", desc := "(I)V" } : Jvm.MethodName) ({ cls := "PinEnginesModel", name := "readJump", desc := "(I)V" } : Jvm.MethodName) ∈ tb := tb_at 132 (by decide +kernel) rfl
theorem q133 : Cond.selects "PinEnginesModel" ({ cls := "PinEnginesModel", name := "readWait", desc := "(I)V" } : Jvm.MethodName) ({ cls := "PinEnginesModel", name := "readWait", desc := "(I)V" } : Jvm.MethodName) ∈ tb := tb_at 133 (by decide +kernel) rfl
theorem q134 : Cond.selects "PinEnginesModel" ({ cls := "PinEnginesModel", name := "readPlace", desc := "(II)V" } : Jvm.MethodName) ({ cls := "PinEnginesModel", name := "readPlace", desc := "(II)V" } : Jvm.MethodName) ∈ tb := tb_at 134 (by decide +kernel) rfl
theorem q135 : Cond.selects "PinEnginesModel" ({ cls := "PinEnginesModel", name := "readQueueing", desc := "(ILjava/lang/String;)V" } : Jvm.MethodName) ({ cls := "PinEnginesModel", name := "readQueueing", desc := "(ILjava/lang/String;)V" } : Jvm.MethodName) ∈ tb := tb_at 135 (by decide +kernel) rfl
theorem q136 : Cond.selects "PinEnginesModel" ({ cls := "PinEnginesModel", name := "readMove", desc := "(I)V" } : Jvm.MethodName) ({ cls := "PinEnginesModel", name := "readMove", desc := "(I)V" } : Jvm.MethodName) ∈ tb := tb_at 136 (by decide +kernel) rfl
theorem q137 : Cond.selects "PinEnginesModel" ({ cls := "PinEnginesModel", name := "readAccess", desc := "(II)V" } : Jvm.MethodName) ({ cls := "PinEnginesModel", name := "readAccess", desc := "(II)V" } : Jvm.MethodName) ∈ tb := tb_at 137 (by decide +kernel) rfl
theorem q138 : Cond.selects "PinEnginesModel" ({ cls := "PinEnginesModel", name := "layNames", desc := "()V" } : Jvm.MethodName) ({ cls := "PinEnginesModel", name := "layNames", desc := "()V" } : Jvm.MethodName) ∈ tb := tb_at 138 (by decide +kernel) rfl
theorem q139 : Cond.selects "PinEnginesModel" ({ cls := "PinEnginesModel", name := "finish", desc := "()I" } : Jvm.MethodName) ({ cls := "PinEnginesModel", name := "finish", desc := "()I" } : Jvm.MethodName) ∈ tb := tb_at 139 (by decide +kernel) rfl
theorem q140 : Cond.selects "PinEnginesModel" ({ cls := "PinEnginesModel", name := "write", desc := "(Ljava/lang/String;)V" } : Jvm.MethodName) ({ cls := "PinEnginesModel", name := "write", desc := "(Ljava/lang/String;)V" } : Jvm.MethodName) ∈ tb := tb_at 140 (by decide +kernel) rfl
theorem q141 : Cond.selects "PinEnginesModel" ({ cls := "PinEnginesModel", name := "writeOperands", desc := "(II)V" } : Jvm.MethodName) ({ cls := "PinEnginesModel", name := "writeOperands", desc := "(II)V" } : Jvm.MethodName) ∈ tb := tb_at 141 (by decide +kernel) rfl
theorem q142 : Cond.selects "PinEnginesModel" ({ cls := "PinEnginesModel", name := "writeIf", desc := "(ZLjava/lang/String;)V" } : Jvm.MethodName) ({ cls := "PinEnginesModel", name := "writeIf", desc := "(ZLjava/lang/String;)V" } : Jvm.MethodName) ∈ tb := tb_at 142 (by decide +kernel) rfl
theorem q143 : Cond.selects "PinEnginesModel" ({ cls := "PinEnginesModel", name := "writeNumber", desc := "(I)V" } : Jvm.MethodName) ({ cls := "PinEnginesModel", name := "writeNumber", desc := "(I)V" } : Jvm.MethodName) ∈ tb := tb_at 143 (by decide +kernel) rfl
theorem q144 : Cond.selects "PinEnginesModel" ({ cls := "PinEnginesModel", name := "digits", desc := "(I)V" } : Jvm.MethodName) ({ cls := "PinEnginesModel", name := "digits", desc := "(I)V" } : Jvm.MethodName) ∈ tb := tb_at 144 (by decide +kernel) rfl
theorem q145 : Cond.selects "PinEnginesModel" ({ cls := "PinEnginesModel", name := "writeAccess", desc := "(I)V" } : Jvm.MethodName) ({ cls := "PinEnginesModel", name := "writeAccess", desc := "(I)V" } : Jvm.MethodName) ∈ tb := tb_at 145 (by decide +kernel) rfl
theorem q146 : Cond.selects "PinEnginesModel" ({ cls := "PinEnginesModel", name := "compileTest", desc := "()V" } : Jvm.MethodName) ({ cls := "PinEnginesModel", name := "compileTest", desc := "()V" } : Jvm.MethodName) ∈ tb := tb_at 146 (by decide +kernel) rfl
theorem q147 : Cond.selects "PinEnginesModel" ({ cls := "PinEnginesModel", name := "compileConjunction", desc := "()V" } : Jvm.MethodName) ({ cls := "PinEnginesModel", name := "compileConjunction", desc := "()V" } : Jvm.MethodName) ∈ tb := tb_at 147 (by decide +kernel) rfl
theorem q148 : Cond.selects "PinEnginesModel" ({ cls := "PinEnginesModel", name := "compileFactor", desc := "()V" } : Jvm.MethodName) ({ cls := "PinEnginesModel", name := "compileFactor", desc := "()V" } : Jvm.MethodName) ∈ tb := tb_at 148 (by decide +kernel) rfl
theorem q149 : Cond.selects "PinEnginesModel" ({ cls := "PinEnginesModel", name := "enter", desc := "()V" } : Jvm.MethodName) ({ cls := "PinEnginesModel", name := "enter", desc := "()V" } : Jvm.MethodName) ∈ tb := tb_at 149 (by decide +kernel) rfl
theorem q150 : Cond.selects "PinEnginesModel" ({ cls := "PinEnginesModel", name := "emit", desc := "(I)V" } : Jvm.MethodName) ({ cls := "PinEnginesModel", name := "emit", desc := "(I)V" } : Jvm.MethodName) ∈ tb := tb_at 150 (by decide +kernel) rfl
theorem q151 : Cond.selects "PinEnginesModel" ({ cls := "PinEnginesModel", name := "compileValue", desc := "()V" } : Jvm.MethodName) ({ cls := "PinEnginesModel", name := "compileValue", desc := "()V" } : Jvm.MethodName) ∈ tb := tb_at 151 (by decide +kernel) rfl
theorem q152 : Cond.selects "PinEnginesModel" ({ cls := "PinEnginesModel", name := "holdsFor", desc := "(I)Z" } : Jvm.MethodName) ({ cls := "PinEnginesModel", name := "holdsFor", desc := "(I)Z" } : Jvm.MethodName) ∈ tb := tb_at 152 (by decide +kernel) rfl
theorem q153 : Cond.selects "PinEnginesModel" ({ cls := "PinEnginesModel", name := "property", desc := "(II)I" } : Jvm.MethodName) ({ cls := "PinEnginesModel", name := "property", desc := "(II)I" } : Jvm.MethodName) ∈ tb := tb_at 153 (by decide +kernel) rfl
theorem q154 : Cond.initialized "PinEnginesLaw" ∈ tb := tb_at 154 (by decide +kernel) rfl
theorem q155 : Cond.initialized "PinEngines" ∈ tb := tb_at 155 (by decide +kernel) rfl
theorem q156 : Cond.initialized "PinEngines$Tokens" ∈ tb := tb_at 156 (by decide +kernel) rfl
theorem q157 : Cond.initialized "java/lang/Enum" ∈ tb := tb_at 157 (by decide +kernel) rfl
theorem q158 : Cond.initialized "PinEngines$Symbol" ∈ tb := tb_at 158 (by decide +kernel) rfl
theorem q159 : Cond.initialized "PinEngines$Program" ∈ tb := tb_at 159 (by decide +kernel) rfl
theorem q160 : Cond.initialized "PinEngines$Instruction" ∈ tb := tb_at 160 (by decide +kernel) rfl
theorem q161 : Cond.initialized "PinEngines$Setup" ∈ tb := tb_at 161 (by decide +kernel) rfl
theorem q162 : Cond.initialized "PinEngines$ProgramReader" ∈ tb := tb_at 162 (by decide +kernel) rfl
theorem q163 : Cond.initialized "PinEngines$Machine" ∈ tb := tb_at 163 (by decide +kernel) rfl
theorem q164 : Cond.initialized "PinEngines$Engine" ∈ tb := tb_at 164 (by decide +kernel) rfl
theorem q165 : Cond.initialized "PinEngines$Queue" ∈ tb := tb_at 165 (by decide +kernel) rfl
theorem q166 : Cond.initialized "PinEngines$Simulator" ∈ tb := tb_at 166 (by decide +kernel) rfl
theorem q167 : Cond.initialized "PinEngines$QueryReader" ∈ tb := tb_at 167 (by decide +kernel) rfl
theorem q168 : Cond.initialized "java/lang/AbstractStringBuilder" ∈ tb := tb_at 168 (by decide +kernel) rfl
theorem q169 : Cond.initialized "java/lang/StringBuilder" ∈ tb := tb_at 169 (by decide +kernel) rfl
theorem q170 : Cond.initialized "java/lang/String" ∈ tb := tb_at 170 (by decide +kernel) rfl
theorem q171 : Cond.initialized "java/lang/StringUTF16" ∈ tb := tb_at 171 (by decide +kernel) rfl
theorem q172 : Cond.initialized "java/lang/Math" ∈ tb := tb_at 172 (by decide +kernel) rfl
theorem q173 : Cond.initialized "PinEnginesModel" ∈ tb := tb_at 173 (by decide +kernel) rfl
theorem q174 : Cond.initialized "java/lang/Throwable" ∈ tb := tb_at 174 (by decide +kernel) rfl
theorem q175 : Cond.initialized "java/lang/Exception" ∈ tb := tb_at 175 (by decide +kernel) rfl
theorem q176 : Cond.initialized "java/lang/RuntimeException" ∈ tb := tb_at 176 (by decide +kernel) rfl
theorem q177 : Cond.initialized "java/lang/IllegalArgumentException" ∈ tb := tb_at 177 (by decide +kernel) rfl
theorem q178 : Cond.initialized "java/lang/StringLatin1" ∈ tb := tb_at 178 (by decide +kernel) rfl
theorem q179 : Cond.initialized "jdk/internal/util/Preconditions" ∈ tb := tb_at 179 (by decide +kernel) rfl
theorem q180 : Cond.initialized "PinEngines$1" ∈ tb := tb_at 180 (by decide +kernel) rfl
theorem q181 : Cond.initialized "java/util/NoSuchElementException" ∈ tb := tb_at 181 (by decide +kernel) rfl
theorem q182 : Cond.initialized "java/lang/System" ∈ tb := tb_at 182 (by decide +kernel) rfl
theorem q183 : Cond.initialized "java/lang/Number" ∈ tb := tb_at 183 (by decide +kernel) rfl
theorem q184 : Cond.initialized "java/lang/Integer" ∈ tb := tb_at 184 (by decide +kernel) rfl
theorem q185 : Cond.initialized "jdk/internal/util/ArraysSupport" ∈ tb := tb_at 185 (by decide +kernel) rfl
theorem q186 : Cond.initialized "java/util/Arrays" ∈ tb := tb_at 186 (by decide +kernel) rfl
theorem q187 : Cond.classLink "PinEnginesLaw" (8 : Nat) "PinEngines" ∈ tb := tb_at 187 (by decide +kernel) rfl
theorem q188 : Cond.instantiable "PinEngines" (17 : Nat) ∈ tb := tb_at 188 (by decide +kernel) rfl
theorem q189 : Cond.methodLink "PinEnginesLaw" (123 : Nat) ({ cls := "PinEngines", name := "<init>", desc := "()V" } : Jvm.MethodName) ∈ tb := tb_at 189 (by decide +kernel) rfl
theorem q190 : Cond.instanceMethod ({ cls := "PinEngines", name := "<init>", desc := "()V" } : Jvm.MethodName) ∈ tb := tb_at 190 (by decide +kernel) rfl
theorem q191 : Cond.code ({ cls := "PinEngines", name := "<init>", desc := "()V" } : Jvm.MethodName) prog_1_method_1_code (2 : Nat) (Option.none : Option Jvm.ClassFile.FieldType) ∈ tb := tb_at 191 (by decide +kernel) rfl
theorem q192 : Cond.methodLink "PinEngines" (1 : Nat) ({ cls := "java/lang/Object", name := "<init>", desc := "()V" } : Jvm.MethodName) ∈ tb := tb_at 192 (by decide +kernel) rfl
theorem q193 : Cond.instanceMethod ({ cls := "java/lang/Object", name := "<init>", desc := "()V" } : Jvm.MethodName) ∈ tb := tb_at 193 (by decide +kernel) rfl
theorem q194 : Cond.code ({ cls := "java/lang/Object", name := "<init>", desc := "()V" } : Jvm.MethodName) object_method_1_code (1 : Nat) (Option.none : Option Jvm.ClassFile.FieldType) ∈ tb := tb_at 194 (by decide +kernel) rfl
theorem q195 : Cond.classLink "PinEngines" (20 : Nat) "PinEngines$Tokens" ∈ tb := tb_at 195 (by decide +kernel) rfl
theorem q196 : Cond.instantiable "PinEngines$Tokens" (9 : Nat) ∈ tb := tb_at 196 (by decide +kernel) rfl
theorem q197 : Cond.methodLink "PinEngines" (22 : Nat) ({ cls := "PinEngines$Tokens", name := "<init>", desc := "([B)V" } : Jvm.MethodName) ∈ tb := tb_at 197 (by decide +kernel) rfl
theorem q198 : Cond.instanceMethod ({ cls := "PinEngines$Tokens", name := "<init>", desc := "([B)V" } : Jvm.MethodName) ∈ tb := tb_at 198 (by decide +kernel) rfl
theorem q199 : Cond.code ({ cls := "PinEngines$Tokens", name := "<init>", desc := "([B)V" } : Jvm.MethodName) prog_13_method_1_code (3 : Nat) (Option.none : Option Jvm.ClassFile.FieldType) ∈ tb := tb_at 199 (by decide +kernel) rfl
theorem q200 : Cond.methodLink "PinEngines$Tokens" (3 : Nat) ({ cls := "java/lang/Object", name := "<init>", desc := "()V" } : Jvm.MethodName) ∈ tb := tb_at 200 (by decide +kernel) rfl
theorem q201 : Cond.classLink "PinEngines$Tokens" (9 : Nat) "PinEngines$Symbol" ∈ tb := tb_at 201 (by decide +kernel) rfl
theorem q203 : Cond.fieldLink "PinEngines$Tokens" (44 : Nat) "PinEngines$Symbol" "END" "LPinEngines$Symbol;" ∈ tb := tb_at 203 (by decide +kernel) rfl
theorem q205 : Cond.fieldLink "PinEngines$Tokens" (40 : Nat) "PinEngines$Tokens" "text" "[B" ∈ tb := tb_at 205 (by decide +kernel) rfl
theorem q206 : Cond.fieldLink "PinEngines$Tokens" (11 : Nat) "PinEngines$Tokens" "symbols" "[LPinEngines$Symbol;" ∈ tb := tb_at 206 (by decide +kernel) rfl
theorem q207 : Cond.fieldLink "PinEngines$Tokens" (17 : Nat) "PinEngines$Tokens" "starts" "[I" ∈ tb := tb_at 207 (by decide +kernel) rfl
theorem q208 : Cond.fieldLink "PinEngines$Tokens" (21 : Nat) "PinEngines$Tokens" "ends" "[I" ∈ tb := tb_at 208 (by decide +kernel) rfl
theorem q209 : Cond.fieldLink "PinEngines$Tokens" (24 : Nat) "PinEngines$Tokens" "numbers" "[I" ∈ tb := tb_at 209 (by decide +kernel) rfl
theorem q210 : Cond.fieldLink "PinEngines$Tokens" (27 : Nat) "PinEngines$Tokens" "last" "I" ∈ tb := tb_at 210 (by decide +kernel) rfl
theorem q211 : Cond.fieldLink "PinEngines$Tokens" (31 : Nat) "PinEngines$Tokens" "next" "I" ∈ tb := tb_at 211 (by decide +kernel) rfl
theorem q212 : Cond.fieldLink "PinEngines$ProgramReader" (222 : Nat) "PinEngines$Tokens" "next" "I" ∈ tb := tb_at 212 (by decide +kernel) rfl
theorem q213 : Cond.fieldLink "PinEngines$Tokens" (34 : Nat) "PinEngines$Tokens" "code" "I" ∈ tb := tb_at 213 (by decide +kernel) rfl
theorem q214 : Cond.fieldLink "PinEngines$ProgramReader" (37 : Nat) "PinEngines$Tokens" "code" "I" ∈ tb := tb_at 214 (by decide +kernel) rfl
theorem q215 : Cond.fieldLink "PinEngines" (120 : Nat) "PinEngines$Tokens" "code" "I" ∈ tb := tb_at 215 (by decide +kernel) rfl
theorem q216 : Cond.fieldLink "PinEngines$Tokens" (37 : Nat) "PinEngines$Tokens" "errorAt" "I" ∈ tb := tb_at 216 (by decide +kernel) rfl
theorem q217 : Cond.fieldLink "PinEngines" (117 : Nat) "PinEngines$Tokens" "errorAt" "I" ∈ tb := tb_at 217 (by decide +kernel) rfl
theorem q218 : Cond.laysFinal "PinEngines$Tokens" "PinEngines$Tokens" "text" "[B" ∈ tb := tb_at 218 (by decide +kernel) rfl
theorem q220 : Cond.laysFinal "PinEngines$Tokens" "PinEngines$Tokens" "symbols" "[LPinEngines$Symbol;" ∈ tb := tb_at 220 (by decide +kernel) rfl
theorem q222 : Cond.laysFinal "PinEngines$Tokens" "PinEngines$Tokens" "starts" "[I" ∈ tb := tb_at 222 (by decide +kernel) rfl
theorem q224 : Cond.laysFinal "PinEngines$Tokens" "PinEngines$Tokens" "ends" "[I" ∈ tb := tb_at 224 (by decide +kernel) rfl
theorem q226 : Cond.laysFinal "PinEngines$Tokens" "PinEngines$Tokens" "numbers" "[I" ∈ tb := tb_at 226 (by decide +kernel) rfl
theorem q228 : Cond.lays "PinEngines$Tokens" "PinEngines$Tokens" "last" "I" ∈ tb := tb_at 228 (by decide +kernel) rfl
theorem q230 : Cond.lays "PinEngines$Tokens" "PinEngines$Tokens" "next" "I" ∈ tb := tb_at 230 (by decide +kernel) rfl
theorem q232 : Cond.lays "PinEngines$Tokens" "PinEngines$Tokens" "code" "I" ∈ tb := tb_at 232 (by decide +kernel) rfl
theorem q234 : Cond.lays "PinEngines$Tokens" "PinEngines$Tokens" "errorAt" "I" ∈ tb := tb_at 234 (by decide +kernel) rfl
theorem q237 : Cond.arrayClass Jvm.ClassFile.FieldType.byte ∈ tb := tb_at 237 (by decide +kernel) rfl
theorem q238 : Cond.arrayClass Jvm.ClassFile.FieldType.int ∈ tb := tb_at 238 (by decide +kernel) rfl
theorem q239 : Cond.classLink "PinEngines" (29 : Nat) "PinEngines$Program" ∈ tb := tb_at 239 (by decide +kernel) rfl
theorem q240 : Cond.instantiable "PinEngines$Program" (5 : Nat) ∈ tb := tb_at 240 (by decide +kernel) rfl
theorem q241 : Cond.methodLink "PinEngines" (31 : Nat) ({ cls := "PinEngines$Program", name := "<init>", desc := "()V" } : Jvm.MethodName) ∈ tb := tb_at 241 (by decide +kernel) rfl
theorem q242 : Cond.instanceMethod ({ cls := "PinEngines$Program", name := "<init>", desc := "()V" } : Jvm.MethodName) ∈ tb := tb_at 242 (by decide +kernel) rfl
theorem q243 : Cond.code ({ cls := "PinEngines$Program", name := "<init>", desc := "()V" } : Jvm.MethodName) prog_6_method_1_code (2 : Nat) (Option.none : Option Jvm.ClassFile.FieldType) ∈ tb := tb_at 243 (by decide +kernel) rfl
theorem q244 : Cond.methodLink "PinEngines$Program" (3 : Nat) ({ cls := "java/lang/Object", name := "<init>", desc := "()V" } : Jvm.MethodName) ∈ tb := tb_at 244 (by decide +kernel) rfl
theorem q245 : Cond.classLink "PinEngines$Program" (18 : Nat) "PinEngines$Setup" ∈ tb := tb_at 245 (by decide +kernel) rfl
theorem q247 : Cond.classLink "PinEngines$Program" (24 : Nat) "PinEngines$Instruction" ∈ tb := tb_at 247 (by decide +kernel) rfl
theorem q249 : Cond.instantiable "PinEngines$Instruction" (8 : Nat) ∈ tb := tb_at 249 (by decide +kernel) rfl
theorem q251 : Cond.instanceMethod ({ cls := "PinEngines$Instruction", name := "<init>", desc := "()V" } : Jvm.MethodName) ∈ tb := tb_at 251 (by decide +kernel) rfl
theorem q252 : Cond.code ({ cls := "PinEngines$Instruction", name := "<init>", desc := "()V" } : Jvm.MethodName) prog_4_method_1_code (1 : Nat) (Option.none : Option Jvm.ClassFile.FieldType) ∈ tb := tb_at 252 (by decide +kernel) rfl
theorem q253 : Cond.methodLink "PinEngines$Instruction" (3 : Nat) ({ cls := "java/lang/Object", name := "<init>", desc := "()V" } : Jvm.MethodName) ∈ tb := tb_at 253 (by decide +kernel) rfl
theorem q254 : Cond.fieldLink "PinEngines$Instruction" (9 : Nat) "PinEngines$Symbol" "NOTHING" "LPinEngines$Symbol;" ∈ tb := tb_at 254 (by decide +kernel) rfl
theorem q256 : Cond.fieldLink "PinEngines$Instruction" (15 : Nat) "PinEngines$Instruction" "operation" "LPinEngines$Symbol;" ∈ tb := tb_at 256 (by decide +kernel) rfl
theorem q257 : Cond.fieldLink "PinEngines$Simulator" (145 : Nat) "PinEngines$Instruction" "operation" "LPinEngines$Symbol;" ∈ tb := tb_at 257 (by decide +kernel) rfl
theorem q258 : Cond.fieldLink "PinEngines$ProgramReader" (257 : Nat) "PinEngines$Instruction" "operation" "LPinEngines$Symbol;" ∈ tb := tb_at 258 (by decide +kernel) rfl
theorem q259 : Cond.fieldLink "PinEngines$Instruction" (20 : Nat) "PinEngines$Instruction" "awaited" "I" ∈ tb := tb_at 259 (by decide +kernel) rfl
theorem q260 : Cond.fieldLink "PinEngines$Simulator" (216 : Nat) "PinEngines$Instruction" "awaited" "I" ∈ tb := tb_at 260 (by decide +kernel) rfl
theorem q261 : Cond.fieldLink "PinEngines$ProgramReader" (268 : Nat) "PinEngines$Instruction" "awaited" "I" ∈ tb := tb_at 261 (by decide +kernel) rfl
theorem q262 : Cond.fieldLink "PinEngines$Instruction" (24 : Nat) "PinEngines$Instruction" "first" "LPinEngines$Symbol;" ∈ tb := tb_at 262 (by decide +kernel) rfl
theorem q263 : Cond.fieldLink "PinEngines$Simulator" (154 : Nat) "PinEngines$Instruction" "first" "LPinEngines$Symbol;" ∈ tb := tb_at 263 (by decide +kernel) rfl
theorem q264 : Cond.fieldLink "PinEngines$ProgramReader" (263 : Nat) "PinEngines$Instruction" "first" "LPinEngines$Symbol;" ∈ tb := tb_at 264 (by decide +kernel) rfl
theorem q265 : Cond.fieldLink "PinEngines$Instruction" (27 : Nat) "PinEngines$Instruction" "change" "LPinEngines$Symbol;" ∈ tb := tb_at 265 (by decide +kernel) rfl
theorem q266 : Cond.fieldLink "PinEngines$ProgramReader" (287 : Nat) "PinEngines$Instruction" "change" "LPinEngines$Symbol;" ∈ tb := tb_at 266 (by decide +kernel) rfl
theorem q267 : Cond.fieldLink "PinEngines$Simulator" (329 : Nat) "PinEngines$Instruction" "change" "LPinEngines$Symbol;" ∈ tb := tb_at 267 (by decide +kernel) rfl
theorem q268 : Cond.fieldLink "PinEngines$Instruction" (30 : Nat) "PinEngines$Instruction" "second" "LPinEngines$Symbol;" ∈ tb := tb_at 268 (by decide +kernel) rfl
theorem q269 : Cond.fieldLink "PinEngines$Simulator" (282 : Nat) "PinEngines$Instruction" "second" "LPinEngines$Symbol;" ∈ tb := tb_at 269 (by decide +kernel) rfl
theorem q270 : Cond.fieldLink "PinEngines$ProgramReader" (290 : Nat) "PinEngines$Instruction" "second" "LPinEngines$Symbol;" ∈ tb := tb_at 270 (by decide +kernel) rfl
theorem q271 : Cond.fieldLink "PinEngines$Instruction" (33 : Nat) "PinEngines$Instruction" "number" "I" ∈ tb := tb_at 271 (by decide +kernel) rfl
theorem q272 : Cond.fieldLink "PinEngines$Simulator" (161 : Nat) "PinEngines$Instruction" "number" "I" ∈ tb := tb_at 272 (by decide +kernel) rfl
theorem q273 : Cond.fieldLink "PinEngines$ProgramReader" (266 : Nat) "PinEngines$Instruction" "number" "I" ∈ tb := tb_at 273 (by decide +kernel) rfl
theorem q274 : Cond.fieldLink "PinEngines$Instruction" (36 : Nat) "PinEngines$Instruction" "side" "I" ∈ tb := tb_at 274 (by decide +kernel) rfl
theorem q275 : Cond.fieldLink "PinEngines$Simulator" (122 : Nat) "PinEngines$Instruction" "side" "I" ∈ tb := tb_at 275 (by decide +kernel) rfl
theorem q276 : Cond.fieldLink "PinEngines$ProgramReader" (246 : Nat) "PinEngines$Instruction" "side" "I" ∈ tb := tb_at 276 (by decide +kernel) rfl
theorem q277 : Cond.fieldLink "PinEngines$Instruction" (39 : Nat) "PinEngines$Instruction" "delay" "I" ∈ tb := tb_at 277 (by decide +kernel) rfl
theorem q278 : Cond.fieldLink "PinEngines$Simulator" (139 : Nat) "PinEngines$Instruction" "delay" "I" ∈ tb := tb_at 278 (by decide +kernel) rfl
theorem q279 : Cond.fieldLink "PinEngines$ProgramReader" (254 : Nat) "PinEngines$Instruction" "delay" "I" ∈ tb := tb_at 279 (by decide +kernel) rfl
theorem q280 : Cond.lays "PinEngines$Instruction" "PinEngines$Instruction" "operation" "LPinEngines$Symbol;" ∈ tb := tb_at 280 (by decide +kernel) rfl
theorem q282 : Cond.lays "PinEngines$Instruction" "PinEngines$Instruction" "awaited" "I" ∈ tb := tb_at 282 (by decide +kernel) rfl
theorem q284 : Cond.lays "PinEngines$Instruction" "PinEngines$Instruction" "first" "LPinEngines$Symbol;" ∈ tb := tb_at 284 (by decide +kernel) rfl
theorem q286 : Cond.lays "PinEngines$Instruction" "PinEngines$Instruction" "change" "LPinEngines$Symbol;" ∈ tb := tb_at 286 (by decide +kernel) rfl
theorem q288 : Cond.lays "PinEngines$Instruction" "PinEngines$Instruction" "second" "LPinEngines$Symbol;" ∈ tb := tb_at 288 (by decide +kernel) rfl
theorem q290 : Cond.lays "PinEngines$Instruction" "PinEngines$Instruction" "number" "I" ∈ tb := tb_at 290 (by decide +kernel) rfl
theorem q292 : Cond.lays "PinEngines$Instruction" "PinEngines$Instruction" "side" "I" ∈ tb := tb_at 292 (by decide +kernel) rfl
theorem q294 : Cond.lays "PinEngines$Instruction" "PinEngines$Instruction" "delay" "I" ∈ tb := tb_at 294 (by decide +kernel) rfl
theorem q297 : Cond.instantiable "PinEngines$Setup" (20 : Nat) ∈ tb := tb_at 297 (by decide +kernel) rfl
theorem q298 : Cond.methodLink "PinEngines$Program" (35 : Nat) ({ cls := "PinEngines$Setup", name := "<init>", desc := "()V" } : Jvm.MethodName) ∈ tb := tb_at 298 (by decide +kernel) rfl
theorem q299 : Cond.instanceMethod ({ cls := "PinEngines$Setup", name := "<init>", desc := "()V" } : Jvm.MethodName) ∈ tb := tb_at 299 (by decide +kernel) rfl
theorem q300 : Cond.code ({ cls := "PinEngines$Setup", name := "<init>", desc := "()V" } : Jvm.MethodName) prog_10_method_1_code (1 : Nat) (Option.none : Option Jvm.ClassFile.FieldType) ∈ tb := tb_at 300 (by decide +kernel) rfl
theorem q301 : Cond.methodLink "PinEngines$Setup" (3 : Nat) ({ cls := "java/lang/Object", name := "<init>", desc := "()V" } : Jvm.MethodName) ∈ tb := tb_at 301 (by decide +kernel) rfl
theorem q302 : Cond.methodLink "PinEngines$Setup" (9 : Nat) ({ cls := "PinEngines$Setup", name := "clear", desc := "()V" } : Jvm.MethodName) ∈ tb := tb_at 302 (by decide +kernel) rfl
theorem q303 : Cond.instanceMethod ({ cls := "PinEngines$Setup", name := "clear", desc := "()V" } : Jvm.MethodName) ∈ tb := tb_at 303 (by decide +kernel) rfl
theorem q304 : Cond.selects "PinEngines$Setup" ({ cls := "PinEngines$Setup", name := "clear", desc := "()V" } : Jvm.MethodName) ({ cls := "PinEngines$Setup", name := "clear", desc := "()V" } : Jvm.MethodName) ∈ tb := tb_at 304 (by decide +kernel) rfl
theorem q305 : Cond.code ({ cls := "PinEngines$Setup", name := "clear", desc := "()V" } : Jvm.MethodName) prog_10_method_2_code (1 : Nat) (Option.none : Option Jvm.ClassFile.FieldType) ∈ tb := tb_at 305 (by decide +kernel) rfl
theorem q306 : Cond.fieldLink "PinEngines$Setup" (14 : Nat) "PinEngines$Setup" "defined" "Z" ∈ tb := tb_at 306 (by decide +kernel) rfl
theorem q307 : Cond.fieldLink "PinEngines$Simulator" (65 : Nat) "PinEngines$Setup" "defined" "Z" ∈ tb := tb_at 307 (by decide +kernel) rfl
theorem q308 : Cond.fieldLink "PinEngines$ProgramReader" (111 : Nat) "PinEngines$Setup" "defined" "Z" ∈ tb := tb_at 308 (by decide +kernel) rfl
theorem q309 : Cond.fieldLink "PinEngines$Program" (47 : Nat) "PinEngines$Setup" "defined" "Z" ∈ tb := tb_at 309 (by decide +kernel) rfl
theorem q310 : Cond.fieldLink "PinEngines$Setup" (18 : Nat) "PinEngines$Setup" "start" "I" ∈ tb := tb_at 310 (by decide +kernel) rfl
theorem q311 : Cond.fieldLink "PinEngines$Engine" (33 : Nat) "PinEngines$Setup" "start" "I" ∈ tb := tb_at 311 (by decide +kernel) rfl
theorem q312 : Cond.fieldLink "PinEngines$ProgramReader" (122 : Nat) "PinEngines$Setup" "start" "I" ∈ tb := tb_at 312 (by decide +kernel) rfl
theorem q313 : Cond.fieldLink "PinEngines$Setup" (22 : Nat) "PinEngines$Setup" "bottom" "I" ∈ tb := tb_at 313 (by decide +kernel) rfl
theorem q314 : Cond.fieldLink "PinEngines$ProgramReader" (147 : Nat) "PinEngines$Setup" "bottom" "I" ∈ tb := tb_at 314 (by decide +kernel) rfl
theorem q315 : Cond.fieldLink "PinEngines$Program" (54 : Nat) "PinEngines$Setup" "bottom" "I" ∈ tb := tb_at 315 (by decide +kernel) rfl
theorem q316 : Cond.fieldLink "PinEngines$Setup" (25 : Nat) "PinEngines$Setup" "top" "I" ∈ tb := tb_at 316 (by decide +kernel) rfl
theorem q317 : Cond.fieldLink "PinEngines$ProgramReader" (150 : Nat) "PinEngines$Setup" "top" "I" ∈ tb := tb_at 317 (by decide +kernel) rfl
theorem q318 : Cond.fieldLink "PinEngines$Program" (51 : Nat) "PinEngines$Setup" "top" "I" ∈ tb := tb_at 318 (by decide +kernel) rfl
theorem q319 : Cond.fieldLink "PinEngines$Setup" (28 : Nat) "PinEngines$Setup" "period" "I" ∈ tb := tb_at 319 (by decide +kernel) rfl
theorem q320 : Cond.fieldLink "PinEngines$Engine" (66 : Nat) "PinEngines$Setup" "period" "I" ∈ tb := tb_at 320 (by decide +kernel) rfl
theorem q321 : Cond.fieldLink "PinEngines$ProgramReader" (144 : Nat) "PinEngines$Setup" "period" "I" ∈ tb := tb_at 321 (by decide +kernel) rfl
theorem q322 : Cond.fieldLink "PinEngines$Setup" (31 : Nat) "PinEngines$Setup" "outBase" "I" ∈ tb := tb_at 322 (by decide +kernel) rfl
theorem q323 : Cond.fieldLink "PinEngines$ProgramReader" (156 : Nat) "PinEngines$Setup" "outBase" "I" ∈ tb := tb_at 323 (by decide +kernel) rfl
theorem q324 : Cond.fieldLink "PinEngines$Simulator" (346 : Nat) "PinEngines$Setup" "outBase" "I" ∈ tb := tb_at 324 (by decide +kernel) rfl
theorem q325 : Cond.fieldLink "PinEngines$Setup" (34 : Nat) "PinEngines$Setup" "outPins" "I" ∈ tb := tb_at 325 (by decide +kernel) rfl
theorem q326 : Cond.fieldLink "PinEngines$ProgramReader" (162 : Nat) "PinEngines$Setup" "outPins" "I" ∈ tb := tb_at 326 (by decide +kernel) rfl
theorem q327 : Cond.fieldLink "PinEngines$Simulator" (343 : Nat) "PinEngines$Setup" "outPins" "I" ∈ tb := tb_at 327 (by decide +kernel) rfl
theorem q328 : Cond.fieldLink "PinEngines$Setup" (37 : Nat) "PinEngines$Setup" "setBase" "I" ∈ tb := tb_at 328 (by decide +kernel) rfl
theorem q329 : Cond.fieldLink "PinEngines$ProgramReader" (165 : Nat) "PinEngines$Setup" "setBase" "I" ∈ tb := tb_at 329 (by decide +kernel) rfl
theorem q330 : Cond.fieldLink "PinEngines$Simulator" (295 : Nat) "PinEngines$Setup" "setBase" "I" ∈ tb := tb_at 330 (by decide +kernel) rfl
theorem q331 : Cond.fieldLink "PinEngines$Setup" (40 : Nat) "PinEngines$Setup" "setPins" "I" ∈ tb := tb_at 331 (by decide +kernel) rfl
theorem q332 : Cond.fieldLink "PinEngines$ProgramReader" (168 : Nat) "PinEngines$Setup" "setPins" "I" ∈ tb := tb_at 332 (by decide +kernel) rfl
theorem q333 : Cond.fieldLink "PinEngines$Simulator" (301 : Nat) "PinEngines$Setup" "setPins" "I" ∈ tb := tb_at 333 (by decide +kernel) rfl
theorem q334 : Cond.fieldLink "PinEngines$Setup" (43 : Nat) "PinEngines$Setup" "sideBase" "I" ∈ tb := tb_at 334 (by decide +kernel) rfl
theorem q335 : Cond.fieldLink "PinEngines$ProgramReader" (171 : Nat) "PinEngines$Setup" "sideBase" "I" ∈ tb := tb_at 335 (by decide +kernel) rfl
theorem q336 : Cond.fieldLink "PinEngines$Simulator" (128 : Nat) "PinEngines$Setup" "sideBase" "I" ∈ tb := tb_at 336 (by decide +kernel) rfl
theorem q337 : Cond.fieldLink "PinEngines$Setup" (46 : Nat) "PinEngines$Setup" "sidePins" "I" ∈ tb := tb_at 337 (by decide +kernel) rfl
theorem q338 : Cond.fieldLink "PinEngines$ProgramReader" (174 : Nat) "PinEngines$Setup" "sidePins" "I" ∈ tb := tb_at 338 (by decide +kernel) rfl
theorem q339 : Cond.fieldLink "PinEngines$Simulator" (125 : Nat) "PinEngines$Setup" "sidePins" "I" ∈ tb := tb_at 339 (by decide +kernel) rfl
theorem q340 : Cond.fieldLink "PinEngines$Setup" (49 : Nat) "PinEngines$Setup" "inBase" "I" ∈ tb := tb_at 340 (by decide +kernel) rfl
theorem q341 : Cond.fieldLink "PinEngines$ProgramReader" (177 : Nat) "PinEngines$Setup" "inBase" "I" ∈ tb := tb_at 341 (by decide +kernel) rfl
theorem q342 : Cond.fieldLink "PinEngines$Simulator" (213 : Nat) "PinEngines$Setup" "inBase" "I" ∈ tb := tb_at 342 (by decide +kernel) rfl
theorem q343 : Cond.fieldLink "PinEngines$Setup" (52 : Nat) "PinEngines$Setup" "jumpPin" "I" ∈ tb := tb_at 343 (by decide +kernel) rfl
theorem q344 : Cond.fieldLink "PinEngines$ProgramReader" (180 : Nat) "PinEngines$Setup" "jumpPin" "I" ∈ tb := tb_at 344 (by decide +kernel) rfl
theorem q345 : Cond.fieldLink "PinEngines$Simulator" (201 : Nat) "PinEngines$Setup" "jumpPin" "I" ∈ tb := tb_at 345 (by decide +kernel) rfl
theorem q346 : Cond.fieldLink "PinEngines$Setup" (55 : Nat) "PinEngines$Setup" "inLeft" "Z" ∈ tb := tb_at 346 (by decide +kernel) rfl
theorem q347 : Cond.fieldLink "PinEngines$ProgramReader" (186 : Nat) "PinEngines$Setup" "inLeft" "Z" ∈ tb := tb_at 347 (by decide +kernel) rfl
theorem q348 : Cond.fieldLink "PinEngines$Simulator" (249 : Nat) "PinEngines$Setup" "inLeft" "Z" ∈ tb := tb_at 348 (by decide +kernel) rfl
theorem q349 : Cond.fieldLink "PinEngines$Setup" (58 : Nat) "PinEngines$Setup" "outLeft" "Z" ∈ tb := tb_at 349 (by decide +kernel) rfl
theorem q350 : Cond.fieldLink "PinEngines$ProgramReader" (189 : Nat) "PinEngines$Setup" "outLeft" "Z" ∈ tb := tb_at 350 (by decide +kernel) rfl
theorem q351 : Cond.fieldLink "PinEngines$Simulator" (273 : Nat) "PinEngines$Setup" "outLeft" "Z" ∈ tb := tb_at 351 (by decide +kernel) rfl
theorem q352 : Cond.fieldLink "PinEngines$Setup" (61 : Nat) "PinEngines$Setup" "autopush" "Z" ∈ tb := tb_at 352 (by decide +kernel) rfl
theorem q353 : Cond.fieldLink "PinEngines$ProgramReader" (192 : Nat) "PinEngines$Setup" "autopush" "Z" ∈ tb := tb_at 353 (by decide +kernel) rfl
theorem q354 : Cond.fieldLink "PinEngines$Simulator" (231 : Nat) "PinEngines$Setup" "autopush" "Z" ∈ tb := tb_at 354 (by decide +kernel) rfl
theorem q355 : Cond.fieldLink "PinEngines$Setup" (64 : Nat) "PinEngines$Setup" "autopull" "Z" ∈ tb := tb_at 355 (by decide +kernel) rfl
theorem q356 : Cond.fieldLink "PinEngines$ProgramReader" (198 : Nat) "PinEngines$Setup" "autopull" "Z" ∈ tb := tb_at 356 (by decide +kernel) rfl
theorem q357 : Cond.fieldLink "PinEngines$Simulator" (258 : Nat) "PinEngines$Setup" "autopull" "Z" ∈ tb := tb_at 357 (by decide +kernel) rfl
theorem q358 : Cond.fieldLink "PinEngines$Setup" (67 : Nat) "PinEngines$Setup" "pushLimit" "I" ∈ tb := tb_at 358 (by decide +kernel) rfl
theorem q359 : Cond.fieldLink "PinEngines$ProgramReader" (195 : Nat) "PinEngines$Setup" "pushLimit" "I" ∈ tb := tb_at 359 (by decide +kernel) rfl
theorem q360 : Cond.fieldLink "PinEngines$Simulator" (234 : Nat) "PinEngines$Setup" "pushLimit" "I" ∈ tb := tb_at 360 (by decide +kernel) rfl
theorem q361 : Cond.fieldLink "PinEngines$Setup" (70 : Nat) "PinEngines$Setup" "pullLimit" "I" ∈ tb := tb_at 361 (by decide +kernel) rfl
theorem q362 : Cond.fieldLink "PinEngines$ProgramReader" (201 : Nat) "PinEngines$Setup" "pullLimit" "I" ∈ tb := tb_at 362 (by decide +kernel) rfl
theorem q363 : Cond.fieldLink "PinEngines$Simulator" (207 : Nat) "PinEngines$Setup" "pullLimit" "I" ∈ tb := tb_at 363 (by decide +kernel) rfl
theorem q364 : Cond.fieldLink "PinEngines$Setup" (73 : Nat) "PinEngines$Setup" "inputRoom" "I" ∈ tb := tb_at 364 (by decide +kernel) rfl
theorem q365 : Cond.fieldLink "PinEngines$Engine" (72 : Nat) "PinEngines$Setup" "inputRoom" "I" ∈ tb := tb_at 365 (by decide +kernel) rfl
theorem q366 : Cond.fieldLink "PinEngines$ProgramReader" (204 : Nat) "PinEngines$Setup" "inputRoom" "I" ∈ tb := tb_at 366 (by decide +kernel) rfl
theorem q367 : Cond.lays "PinEngines$Setup" "PinEngines$Setup" "defined" "Z" ∈ tb := tb_at 367 (by decide +kernel) rfl
theorem q369 : Cond.lays "PinEngines$Setup" "PinEngines$Setup" "start" "I" ∈ tb := tb_at 369 (by decide +kernel) rfl
theorem q371 : Cond.lays "PinEngines$Setup" "PinEngines$Setup" "bottom" "I" ∈ tb := tb_at 371 (by decide +kernel) rfl
theorem q373 : Cond.lays "PinEngines$Setup" "PinEngines$Setup" "top" "I" ∈ tb := tb_at 373 (by decide +kernel) rfl
theorem q375 : Cond.lays "PinEngines$Setup" "PinEngines$Setup" "period" "I" ∈ tb := tb_at 375 (by decide +kernel) rfl
theorem q377 : Cond.lays "PinEngines$Setup" "PinEngines$Setup" "outBase" "I" ∈ tb := tb_at 377 (by decide +kernel) rfl
theorem q379 : Cond.lays "PinEngines$Setup" "PinEngines$Setup" "outPins" "I" ∈ tb := tb_at 379 (by decide +kernel) rfl
theorem q381 : Cond.lays "PinEngines$Setup" "PinEngines$Setup" "setBase" "I" ∈ tb := tb_at 381 (by decide +kernel) rfl
theorem q383 : Cond.lays "PinEngines$Setup" "PinEngines$Setup" "setPins" "I" ∈ tb := tb_at 383 (by decide +kernel) rfl
theorem q385 : Cond.lays "PinEngines$Setup" "PinEngines$Setup" "sideBase" "I" ∈ tb := tb_at 385 (by decide +kernel) rfl
theorem q387 : Cond.lays "PinEngines$Setup" "PinEngines$Setup" "sidePins" "I" ∈ tb := tb_at 387 (by decide +kernel) rfl
theorem q389 : Cond.lays "PinEngines$Setup" "PinEngines$Setup" "inBase" "I" ∈ tb := tb_at 389 (by decide +kernel) rfl
theorem q391 : Cond.lays "PinEngines$Setup" "PinEngines$Setup" "jumpPin" "I" ∈ tb := tb_at 391 (by decide +kernel) rfl
theorem q393 : Cond.lays "PinEngines$Setup" "PinEngines$Setup" "inLeft" "Z" ∈ tb := tb_at 393 (by decide +kernel) rfl
theorem q395 : Cond.lays "PinEngines$Setup" "PinEngines$Setup" "outLeft" "Z" ∈ tb := tb_at 395 (by decide +kernel) rfl
theorem q397 : Cond.lays "PinEngines$Setup" "PinEngines$Setup" "autopush" "Z" ∈ tb := tb_at 397 (by decide +kernel) rfl
theorem q399 : Cond.lays "PinEngines$Setup" "PinEngines$Setup" "autopull" "Z" ∈ tb := tb_at 399 (by decide +kernel) rfl
theorem q401 : Cond.lays "PinEngines$Setup" "PinEngines$Setup" "pushLimit" "I" ∈ tb := tb_at 401 (by decide +kernel) rfl
theorem q403 : Cond.lays "PinEngines$Setup" "PinEngines$Setup" "pullLimit" "I" ∈ tb := tb_at 403 (by decide +kernel) rfl
theorem q405 : Cond.lays "PinEngines$Setup" "PinEngines$Setup" "inputRoom" "I" ∈ tb := tb_at 405 (by decide +kernel) rfl
theorem q408 : Cond.fieldLink "PinEngines$Program" (9 : Nat) "PinEngines$Program" "count" "I" ∈ tb := tb_at 408 (by decide +kernel) rfl
theorem q409 : Cond.fieldLink "PinEngines" (124 : Nat) "PinEngines$Program" "count" "I" ∈ tb := tb_at 409 (by decide +kernel) rfl
theorem q410 : Cond.fieldLink "PinEngines$ProgramReader" (225 : Nat) "PinEngines$Program" "count" "I" ∈ tb := tb_at 410 (by decide +kernel) rfl
theorem q411 : Cond.fieldLink "PinEngines$Program" (15 : Nat) "PinEngines$Program" "outside" "I" ∈ tb := tb_at 411 (by decide +kernel) rfl
theorem q412 : Cond.fieldLink "PinEngines$Machine" (44 : Nat) "PinEngines$Program" "outside" "I" ∈ tb := tb_at 412 (by decide +kernel) rfl
theorem q413 : Cond.fieldLink "PinEngines$ProgramReader" (207 : Nat) "PinEngines$Program" "outside" "I" ∈ tb := tb_at 413 (by decide +kernel) rfl
theorem q414 : Cond.fieldLink "PinEngines$Program" (20 : Nat) "PinEngines$Program" "setups" "[LPinEngines$Setup;" ∈ tb := tb_at 414 (by decide +kernel) rfl
theorem q415 : Cond.fieldLink "PinEngines$Machine" (56 : Nat) "PinEngines$Program" "setups" "[LPinEngines$Setup;" ∈ tb := tb_at 415 (by decide +kernel) rfl
theorem q416 : Cond.fieldLink "PinEngines$Simulator" (52 : Nat) "PinEngines$Program" "setups" "[LPinEngines$Setup;" ∈ tb := tb_at 416 (by decide +kernel) rfl
theorem q417 : Cond.fieldLink "PinEngines$ProgramReader" (103 : Nat) "PinEngines$Program" "setups" "[LPinEngines$Setup;" ∈ tb := tb_at 417 (by decide +kernel) rfl
theorem q418 : Cond.fieldLink "PinEngines" (244 : Nat) "PinEngines$Program" "setups" "[LPinEngines$Setup;" ∈ tb := tb_at 418 (by decide +kernel) rfl
theorem q419 : Cond.fieldLink "PinEngines$Program" (26 : Nat) "PinEngines$Program" "instructions" "[LPinEngines$Instruction;" ∈ tb := tb_at 419 (by decide +kernel) rfl
theorem q420 : Cond.fieldLink "PinEngines$Program" (31 : Nat) "PinEngines$Program" "nothing" "LPinEngines$Instruction;" ∈ tb := tb_at 420 (by decide +kernel) rfl
theorem q421 : Cond.lays "PinEngines$Program" "PinEngines$Program" "count" "I" ∈ tb := tb_at 421 (by decide +kernel) rfl
theorem q423 : Cond.lays "PinEngines$Program" "PinEngines$Program" "outside" "I" ∈ tb := tb_at 423 (by decide +kernel) rfl
theorem q425 : Cond.laysFinal "PinEngines$Program" "PinEngines$Program" "setups" "[LPinEngines$Setup;" ∈ tb := tb_at 425 (by decide +kernel) rfl
theorem q427 : Cond.laysFinal "PinEngines$Program" "PinEngines$Program" "instructions" "[LPinEngines$Instruction;" ∈ tb := tb_at 427 (by decide +kernel) rfl
theorem q429 : Cond.laysFinal "PinEngines$Program" "PinEngines$Program" "nothing" "LPinEngines$Instruction;" ∈ tb := tb_at 429 (by decide +kernel) rfl
theorem q432 : Cond.classLink "PinEngines" (39 : Nat) "PinEngines$ProgramReader" ∈ tb := tb_at 432 (by decide +kernel) rfl
theorem q433 : Cond.instantiable "PinEngines$ProgramReader" (6 : Nat) ∈ tb := tb_at 433 (by decide +kernel) rfl
theorem q434 : Cond.methodLink "PinEngines" (41 : Nat) ({ cls := "PinEngines$ProgramReader", name := "<init>", desc := "(LPinEngines$Tokens;LPinEngines$Program;)V" } : Jvm.MethodName) ∈ tb := tb_at 434 (by decide +kernel) rfl
theorem q435 : Cond.instanceMethod ({ cls := "PinEngines$ProgramReader", name := "<init>", desc := "(LPinEngines$Tokens;LPinEngines$Program;)V" } : Jvm.MethodName) ∈ tb := tb_at 435 (by decide +kernel) rfl
theorem q436 : Cond.code ({ cls := "PinEngines$ProgramReader", name := "<init>", desc := "(LPinEngines$Tokens;LPinEngines$Program;)V" } : Jvm.MethodName) prog_7_method_1_code (3 : Nat) (Option.none : Option Jvm.ClassFile.FieldType) ∈ tb := tb_at 436 (by decide +kernel) rfl
theorem q437 : Cond.methodLink "PinEngines$ProgramReader" (3 : Nat) ({ cls := "java/lang/Object", name := "<init>", desc := "()V" } : Jvm.MethodName) ∈ tb := tb_at 437 (by decide +kernel) rfl
theorem q438 : Cond.fieldLink "PinEngines$ProgramReader" (26 : Nat) "PinEngines$ProgramReader" "tokens" "LPinEngines$Tokens;" ∈ tb := tb_at 438 (by decide +kernel) rfl
theorem q439 : Cond.fieldLink "PinEngines$ProgramReader" (30 : Nat) "PinEngines$ProgramReader" "program" "LPinEngines$Program;" ∈ tb := tb_at 439 (by decide +kernel) rfl
theorem q440 : Cond.fieldLink "PinEngines$ProgramReader" (9 : Nat) "PinEngines$ProgramReader" "labelsKnown" "Z" ∈ tb := tb_at 440 (by decide +kernel) rfl
theorem q441 : Cond.fieldLink "PinEngines$ProgramReader" (15 : Nat) "PinEngines$ProgramReader" "labelCount" "I" ∈ tb := tb_at 441 (by decide +kernel) rfl
theorem q442 : Cond.fieldLink "PinEngines$ProgramReader" (19 : Nat) "PinEngines$ProgramReader" "labelTokens" "[I" ∈ tb := tb_at 442 (by decide +kernel) rfl
theorem q443 : Cond.fieldLink "PinEngines$ProgramReader" (23 : Nat) "PinEngines$ProgramReader" "labelAddresses" "[I" ∈ tb := tb_at 443 (by decide +kernel) rfl
theorem q444 : Cond.laysFinal "PinEngines$ProgramReader" "PinEngines$ProgramReader" "tokens" "LPinEngines$Tokens;" ∈ tb := tb_at 444 (by decide +kernel) rfl
theorem q446 : Cond.lays "PinEngines$ProgramReader" "PinEngines$ProgramReader" "program" "LPinEngines$Program;" ∈ tb := tb_at 446 (by decide +kernel) rfl
theorem q448 : Cond.lays "PinEngines$ProgramReader" "PinEngines$ProgramReader" "labelsKnown" "Z" ∈ tb := tb_at 448 (by decide +kernel) rfl
theorem q450 : Cond.lays "PinEngines$ProgramReader" "PinEngines$ProgramReader" "labelCount" "I" ∈ tb := tb_at 450 (by decide +kernel) rfl
theorem q452 : Cond.laysFinal "PinEngines$ProgramReader" "PinEngines$ProgramReader" "labelTokens" "[I" ∈ tb := tb_at 452 (by decide +kernel) rfl
theorem q454 : Cond.laysFinal "PinEngines$ProgramReader" "PinEngines$ProgramReader" "labelAddresses" "[I" ∈ tb := tb_at 454 (by decide +kernel) rfl
theorem q457 : Cond.classLink "PinEngines" (48 : Nat) "PinEngines$Machine" ∈ tb := tb_at 457 (by decide +kernel) rfl
theorem q458 : Cond.instantiable "PinEngines$Machine" (14 : Nat) ∈ tb := tb_at 458 (by decide +kernel) rfl
theorem q459 : Cond.methodLink "PinEngines" (50 : Nat) ({ cls := "PinEngines$Machine", name := "<init>", desc := "()V" } : Jvm.MethodName) ∈ tb := tb_at 459 (by decide +kernel) rfl
theorem q460 : Cond.instanceMethod ({ cls := "PinEngines$Machine", name := "<init>", desc := "()V" } : Jvm.MethodName) ∈ tb := tb_at 460 (by decide +kernel) rfl
theorem q461 : Cond.code ({ cls := "PinEngines$Machine", name := "<init>", desc := "()V" } : Jvm.MethodName) prog_5_method_1_code (2 : Nat) (Option.none : Option Jvm.ClassFile.FieldType) ∈ tb := tb_at 461 (by decide +kernel) rfl
theorem q462 : Cond.methodLink "PinEngines$Machine" (3 : Nat) ({ cls := "java/lang/Object", name := "<init>", desc := "()V" } : Jvm.MethodName) ∈ tb := tb_at 462 (by decide +kernel) rfl
theorem q463 : Cond.classLink "PinEngines$Machine" (15 : Nat) "PinEngines$Engine" ∈ tb := tb_at 463 (by decide +kernel) rfl
theorem q465 : Cond.instantiable "PinEngines$Engine" (14 : Nat) ∈ tb := tb_at 465 (by decide +kernel) rfl
theorem q467 : Cond.instanceMethod ({ cls := "PinEngines$Engine", name := "<init>", desc := "()V" } : Jvm.MethodName) ∈ tb := tb_at 467 (by decide +kernel) rfl
theorem q468 : Cond.code ({ cls := "PinEngines$Engine", name := "<init>", desc := "()V" } : Jvm.MethodName) prog_3_method_1_code (1 : Nat) (Option.none : Option Jvm.ClassFile.FieldType) ∈ tb := tb_at 468 (by decide +kernel) rfl
theorem q469 : Cond.methodLink "PinEngines$Engine" (3 : Nat) ({ cls := "java/lang/Object", name := "<init>", desc := "()V" } : Jvm.MethodName) ∈ tb := tb_at 469 (by decide +kernel) rfl
theorem q470 : Cond.classLink "PinEngines$Engine" (9 : Nat) "PinEngines$Queue" ∈ tb := tb_at 470 (by decide +kernel) rfl
theorem q471 : Cond.instantiable "PinEngines$Queue" (4 : Nat) ∈ tb := tb_at 471 (by decide +kernel) rfl
theorem q473 : Cond.instanceMethod ({ cls := "PinEngines$Queue", name := "<init>", desc := "()V" } : Jvm.MethodName) ∈ tb := tb_at 473 (by decide +kernel) rfl
theorem q474 : Cond.code ({ cls := "PinEngines$Queue", name := "<init>", desc := "()V" } : Jvm.MethodName) prog_9_method_1_code (1 : Nat) (Option.none : Option Jvm.ClassFile.FieldType) ∈ tb := tb_at 474 (by decide +kernel) rfl
theorem q475 : Cond.methodLink "PinEngines$Queue" (3 : Nat) ({ cls := "java/lang/Object", name := "<init>", desc := "()V" } : Jvm.MethodName) ∈ tb := tb_at 475 (by decide +kernel) rfl
theorem q476 : Cond.fieldLink "PinEngines$Queue" (9 : Nat) "PinEngines$Queue" "size" "I" ∈ tb := tb_at 476 (by decide +kernel) rfl
theorem q477 : Cond.fieldLink "PinEngines$QueryReader" (157 : Nat) "PinEngines$Queue" "size" "I" ∈ tb := tb_at 477 (by decide +kernel) rfl
theorem q478 : Cond.fieldLink "PinEngines$Simulator" (264 : Nat) "PinEngines$Queue" "size" "I" ∈ tb := tb_at 478 (by decide +kernel) rfl
theorem q479 : Cond.fieldLink "PinEngines" (202 : Nat) "PinEngines$Queue" "size" "I" ∈ tb := tb_at 479 (by decide +kernel) rfl
theorem q480 : Cond.fieldLink "PinEngines$Queue" (15 : Nat) "PinEngines$Queue" "room" "I" ∈ tb := tb_at 480 (by decide +kernel) rfl
theorem q481 : Cond.fieldLink "PinEngines$Queue" (18 : Nat) "PinEngines$Queue" "head" "I" ∈ tb := tb_at 481 (by decide +kernel) rfl
theorem q482 : Cond.fieldLink "PinEngines$Queue" (21 : Nat) "PinEngines$Queue" "words" "[I" ∈ tb := tb_at 482 (by decide +kernel) rfl
theorem q483 : Cond.lays "PinEngines$Queue" "PinEngines$Queue" "size" "I" ∈ tb := tb_at 483 (by decide +kernel) rfl
theorem q485 : Cond.lays "PinEngines$Queue" "PinEngines$Queue" "room" "I" ∈ tb := tb_at 485 (by decide +kernel) rfl
theorem q487 : Cond.lays "PinEngines$Queue" "PinEngines$Queue" "head" "I" ∈ tb := tb_at 487 (by decide +kernel) rfl
theorem q489 : Cond.laysFinal "PinEngines$Queue" "PinEngines$Queue" "words" "[I" ∈ tb := tb_at 489 (by decide +kernel) rfl
theorem q492 : Cond.fieldLink "PinEngines$Engine" (39 : Nat) "PinEngines$Engine" "pc" "I" ∈ tb := tb_at 492 (by decide +kernel) rfl
theorem q493 : Cond.fieldLink "PinEngines$Simulator" (87 : Nat) "PinEngines$Engine" "pc" "I" ∈ tb := tb_at 493 (by decide +kernel) rfl
theorem q494 : Cond.fieldLink "PinEngines$QueryReader" (123 : Nat) "PinEngines$Engine" "pc" "I" ∈ tb := tb_at 494 (by decide +kernel) rfl
theorem q495 : Cond.fieldLink "PinEngines" (166 : Nat) "PinEngines$Engine" "pc" "I" ∈ tb := tb_at 495 (by decide +kernel) rfl
theorem q496 : Cond.fieldLink "PinEngines$Engine" (42 : Nat) "PinEngines$Engine" "x" "I" ∈ tb := tb_at 496 (by decide +kernel) rfl
theorem q497 : Cond.fieldLink "PinEngines$Simulator" (195 : Nat) "PinEngines$Engine" "x" "I" ∈ tb := tb_at 497 (by decide +kernel) rfl
theorem q498 : Cond.fieldLink "PinEngines$QueryReader" (129 : Nat) "PinEngines$Engine" "x" "I" ∈ tb := tb_at 498 (by decide +kernel) rfl
theorem q499 : Cond.fieldLink "PinEngines" (171 : Nat) "PinEngines$Engine" "x" "I" ∈ tb := tb_at 499 (by decide +kernel) rfl
theorem q500 : Cond.fieldLink "PinEngines$Engine" (45 : Nat) "PinEngines$Engine" "y" "I" ∈ tb := tb_at 500 (by decide +kernel) rfl
theorem q501 : Cond.fieldLink "PinEngines$Simulator" (198 : Nat) "PinEngines$Engine" "y" "I" ∈ tb := tb_at 501 (by decide +kernel) rfl
theorem q502 : Cond.fieldLink "PinEngines$QueryReader" (132 : Nat) "PinEngines$Engine" "y" "I" ∈ tb := tb_at 502 (by decide +kernel) rfl
theorem q503 : Cond.fieldLink "PinEngines" (174 : Nat) "PinEngines$Engine" "y" "I" ∈ tb := tb_at 503 (by decide +kernel) rfl
theorem q504 : Cond.fieldLink "PinEngines$Engine" (48 : Nat) "PinEngines$Engine" "isr" "I" ∈ tb := tb_at 504 (by decide +kernel) rfl
theorem q505 : Cond.fieldLink "PinEngines$QueryReader" (135 : Nat) "PinEngines$Engine" "isr" "I" ∈ tb := tb_at 505 (by decide +kernel) rfl
theorem q506 : Cond.fieldLink "PinEngines$Simulator" (252 : Nat) "PinEngines$Engine" "isr" "I" ∈ tb := tb_at 506 (by decide +kernel) rfl
theorem q507 : Cond.fieldLink "PinEngines" (177 : Nat) "PinEngines$Engine" "isr" "I" ∈ tb := tb_at 507 (by decide +kernel) rfl
theorem q508 : Cond.fieldLink "PinEngines$Engine" (51 : Nat) "PinEngines$Engine" "osr" "I" ∈ tb := tb_at 508 (by decide +kernel) rfl
theorem q509 : Cond.fieldLink "PinEngines$QueryReader" (138 : Nat) "PinEngines$Engine" "osr" "I" ∈ tb := tb_at 509 (by decide +kernel) rfl
theorem q510 : Cond.fieldLink "PinEngines$Simulator" (270 : Nat) "PinEngines$Engine" "osr" "I" ∈ tb := tb_at 510 (by decide +kernel) rfl
theorem q511 : Cond.fieldLink "PinEngines" (180 : Nat) "PinEngines$Engine" "osr" "I" ∈ tb := tb_at 511 (by decide +kernel) rfl
theorem q512 : Cond.fieldLink "PinEngines$Engine" (54 : Nat) "PinEngines$Engine" "fill" "I" ∈ tb := tb_at 512 (by decide +kernel) rfl
theorem q513 : Cond.fieldLink "PinEngines$QueryReader" (141 : Nat) "PinEngines$Engine" "fill" "I" ∈ tb := tb_at 513 (by decide +kernel) rfl
theorem q514 : Cond.fieldLink "PinEngines$Simulator" (223 : Nat) "PinEngines$Engine" "fill" "I" ∈ tb := tb_at 514 (by decide +kernel) rfl
theorem q515 : Cond.fieldLink "PinEngines" (183 : Nat) "PinEngines$Engine" "fill" "I" ∈ tb := tb_at 515 (by decide +kernel) rfl
theorem q516 : Cond.fieldLink "PinEngines$Engine" (57 : Nat) "PinEngines$Engine" "spent" "I" ∈ tb := tb_at 516 (by decide +kernel) rfl
theorem q517 : Cond.fieldLink "PinEngines$Simulator" (204 : Nat) "PinEngines$Engine" "spent" "I" ∈ tb := tb_at 517 (by decide +kernel) rfl
theorem q518 : Cond.fieldLink "PinEngines$QueryReader" (144 : Nat) "PinEngines$Engine" "spent" "I" ∈ tb := tb_at 518 (by decide +kernel) rfl
theorem q519 : Cond.fieldLink "PinEngines" (186 : Nat) "PinEngines$Engine" "spent" "I" ∈ tb := tb_at 519 (by decide +kernel) rfl
theorem q520 : Cond.fieldLink "PinEngines$Engine" (60 : Nat) "PinEngines$Engine" "delay" "I" ∈ tb := tb_at 520 (by decide +kernel) rfl
theorem q521 : Cond.fieldLink "PinEngines$Simulator" (84 : Nat) "PinEngines$Engine" "delay" "I" ∈ tb := tb_at 521 (by decide +kernel) rfl
theorem q522 : Cond.fieldLink "PinEngines$QueryReader" (147 : Nat) "PinEngines$Engine" "delay" "I" ∈ tb := tb_at 522 (by decide +kernel) rfl
theorem q523 : Cond.fieldLink "PinEngines" (189 : Nat) "PinEngines$Engine" "delay" "I" ∈ tb := tb_at 523 (by decide +kernel) rfl
theorem q524 : Cond.fieldLink "PinEngines$Engine" (63 : Nat) "PinEngines$Engine" "stall" "I" ∈ tb := tb_at 524 (by decide +kernel) rfl
theorem q525 : Cond.fieldLink "PinEngines$Simulator" (104 : Nat) "PinEngines$Engine" "stall" "I" ∈ tb := tb_at 525 (by decide +kernel) rfl
theorem q526 : Cond.fieldLink "PinEngines$QueryReader" (150 : Nat) "PinEngines$Engine" "stall" "I" ∈ tb := tb_at 526 (by decide +kernel) rfl
theorem q527 : Cond.fieldLink "PinEngines" (192 : Nat) "PinEngines$Engine" "stall" "I" ∈ tb := tb_at 527 (by decide +kernel) rfl
theorem q528 : Cond.fieldLink "PinEngines$Engine" (69 : Nat) "PinEngines$Engine" "counter" "I" ∈ tb := tb_at 528 (by decide +kernel) rfl
theorem q529 : Cond.fieldLink "PinEngines$Engine" (29 : Nat) "PinEngines$Engine" "enabled" "Z" ∈ tb := tb_at 529 (by decide +kernel) rfl
theorem q530 : Cond.fieldLink "PinEngines" (195 : Nat) "PinEngines$Engine" "enabled" "Z" ∈ tb := tb_at 530 (by decide +kernel) rfl
theorem q531 : Cond.fieldLink "PinEngines$Engine" (12 : Nat) "PinEngines$Engine" "input" "LPinEngines$Queue;" ∈ tb := tb_at 531 (by decide +kernel) rfl
theorem q532 : Cond.fieldLink "PinEngines$QueryReader" (153 : Nat) "PinEngines$Engine" "input" "LPinEngines$Queue;" ∈ tb := tb_at 532 (by decide +kernel) rfl
theorem q533 : Cond.fieldLink "PinEngines$Simulator" (261 : Nat) "PinEngines$Engine" "input" "LPinEngines$Queue;" ∈ tb := tb_at 533 (by decide +kernel) rfl
theorem q534 : Cond.fieldLink "PinEngines" (351 : Nat) "PinEngines$Engine" "input" "LPinEngines$Queue;" ∈ tb := tb_at 534 (by decide +kernel) rfl
theorem q535 : Cond.fieldLink "PinEngines$Engine" (18 : Nat) "PinEngines$Engine" "output" "LPinEngines$Queue;" ∈ tb := tb_at 535 (by decide +kernel) rfl
theorem q536 : Cond.fieldLink "PinEngines$QueryReader" (162 : Nat) "PinEngines$Engine" "output" "LPinEngines$Queue;" ∈ tb := tb_at 536 (by decide +kernel) rfl
theorem q537 : Cond.fieldLink "PinEngines$Simulator" (237 : Nat) "PinEngines$Engine" "output" "LPinEngines$Queue;" ∈ tb := tb_at 537 (by decide +kernel) rfl
theorem q538 : Cond.fieldLink "PinEngines" (347 : Nat) "PinEngines$Engine" "output" "LPinEngines$Queue;" ∈ tb := tb_at 538 (by decide +kernel) rfl
theorem q539 : Cond.fieldLink "PinEngines$Engine" (21 : Nat) "PinEngines$Engine" "counts" "[I" ∈ tb := tb_at 539 (by decide +kernel) rfl
theorem q540 : Cond.fieldLink "PinEngines$Simulator" (100 : Nat) "PinEngines$Engine" "counts" "[I" ∈ tb := tb_at 540 (by decide +kernel) rfl
theorem q541 : Cond.fieldLink "PinEngines" (217 : Nat) "PinEngines$Engine" "counts" "[I" ∈ tb := tb_at 541 (by decide +kernel) rfl
theorem q542 : Cond.lays "PinEngines$Engine" "PinEngines$Engine" "pc" "I" ∈ tb := tb_at 542 (by decide +kernel) rfl
theorem q544 : Cond.lays "PinEngines$Engine" "PinEngines$Engine" "x" "I" ∈ tb := tb_at 544 (by decide +kernel) rfl
theorem q546 : Cond.lays "PinEngines$Engine" "PinEngines$Engine" "y" "I" ∈ tb := tb_at 546 (by decide +kernel) rfl
theorem q548 : Cond.lays "PinEngines$Engine" "PinEngines$Engine" "isr" "I" ∈ tb := tb_at 548 (by decide +kernel) rfl
theorem q550 : Cond.lays "PinEngines$Engine" "PinEngines$Engine" "osr" "I" ∈ tb := tb_at 550 (by decide +kernel) rfl
theorem q552 : Cond.lays "PinEngines$Engine" "PinEngines$Engine" "fill" "I" ∈ tb := tb_at 552 (by decide +kernel) rfl
theorem q554 : Cond.lays "PinEngines$Engine" "PinEngines$Engine" "spent" "I" ∈ tb := tb_at 554 (by decide +kernel) rfl
theorem q556 : Cond.lays "PinEngines$Engine" "PinEngines$Engine" "delay" "I" ∈ tb := tb_at 556 (by decide +kernel) rfl
theorem q558 : Cond.lays "PinEngines$Engine" "PinEngines$Engine" "stall" "I" ∈ tb := tb_at 558 (by decide +kernel) rfl
theorem q560 : Cond.lays "PinEngines$Engine" "PinEngines$Engine" "counter" "I" ∈ tb := tb_at 560 (by decide +kernel) rfl
theorem q562 : Cond.lays "PinEngines$Engine" "PinEngines$Engine" "enabled" "Z" ∈ tb := tb_at 562 (by decide +kernel) rfl
theorem q564 : Cond.laysFinal "PinEngines$Engine" "PinEngines$Engine" "input" "LPinEngines$Queue;" ∈ tb := tb_at 564 (by decide +kernel) rfl
theorem q566 : Cond.laysFinal "PinEngines$Engine" "PinEngines$Engine" "output" "LPinEngines$Queue;" ∈ tb := tb_at 566 (by decide +kernel) rfl
theorem q568 : Cond.laysFinal "PinEngines$Engine" "PinEngines$Engine" "counts" "[I" ∈ tb := tb_at 568 (by decide +kernel) rfl
theorem q571 : Cond.fieldLink "PinEngines$Machine" (34 : Nat) "PinEngines$Machine" "clock" "I" ∈ tb := tb_at 571 (by decide +kernel) rfl
theorem q572 : Cond.fieldLink "PinEngines" (131 : Nat) "PinEngines$Machine" "clock" "I" ∈ tb := tb_at 572 (by decide +kernel) rfl
theorem q573 : Cond.fieldLink "PinEngines$Machine" (38 : Nat) "PinEngines$Machine" "latches" "I" ∈ tb := tb_at 573 (by decide +kernel) rfl
theorem q574 : Cond.fieldLink "PinEngines" (140 : Nat) "PinEngines$Machine" "latches" "I" ∈ tb := tb_at 574 (by decide +kernel) rfl
theorem q575 : Cond.fieldLink "PinEngines$Machine" (41 : Nat) "PinEngines$Machine" "outputs" "I" ∈ tb := tb_at 575 (by decide +kernel) rfl
theorem q576 : Cond.fieldLink "PinEngines" (143 : Nat) "PinEngines$Machine" "outputs" "I" ∈ tb := tb_at 576 (by decide +kernel) rfl
theorem q577 : Cond.fieldLink "PinEngines$Machine" (49 : Nat) "PinEngines$Machine" "outside" "I" ∈ tb := tb_at 577 (by decide +kernel) rfl
theorem q578 : Cond.fieldLink "PinEngines$Machine" (50 : Nat) "PinEngines$Machine" "flags" "I" ∈ tb := tb_at 578 (by decide +kernel) rfl
theorem q579 : Cond.fieldLink "PinEngines$Simulator" (31 : Nat) "PinEngines$Machine" "flags" "I" ∈ tb := tb_at 579 (by decide +kernel) rfl
theorem q580 : Cond.fieldLink "PinEngines" (149 : Nat) "PinEngines$Machine" "flags" "I" ∈ tb := tb_at 580 (by decide +kernel) rfl
theorem q581 : Cond.fieldLink "PinEngines$Machine" (53 : Nat) "PinEngines$Machine" "portOwner" "I" ∈ tb := tb_at 581 (by decide +kernel) rfl
theorem q582 : Cond.fieldLink "PinEngines$Simulator" (77 : Nat) "PinEngines$Machine" "portOwner" "I" ∈ tb := tb_at 582 (by decide +kernel) rfl
theorem q583 : Cond.fieldLink "PinEngines" (159 : Nat) "PinEngines$Machine" "portOwner" "I" ∈ tb := tb_at 583 (by decide +kernel) rfl
theorem q584 : Cond.fieldLink "PinEngines$Machine" (9 : Nat) "PinEngines$Machine" "memory" "[I" ∈ tb := tb_at 584 (by decide +kernel) rfl
theorem q585 : Cond.fieldLink "PinEngines" (155 : Nat) "PinEngines$Machine" "memory" "[I" ∈ tb := tb_at 585 (by decide +kernel) rfl
theorem q586 : Cond.fieldLink "PinEngines$Simulator" (316 : Nat) "PinEngines$Machine" "memory" "[I" ∈ tb := tb_at 586 (by decide +kernel) rfl
theorem q587 : Cond.fieldLink "PinEngines$Machine" (17 : Nat) "PinEngines$Machine" "engines" "[LPinEngines$Engine;" ∈ tb := tb_at 587 (by decide +kernel) rfl
theorem q588 : Cond.fieldLink "PinEngines$Simulator" (48 : Nat) "PinEngines$Machine" "engines" "[LPinEngines$Engine;" ∈ tb := tb_at 588 (by decide +kernel) rfl
theorem q589 : Cond.fieldLink "PinEngines$QueryReader" (109 : Nat) "PinEngines$Machine" "engines" "[LPinEngines$Engine;" ∈ tb := tb_at 589 (by decide +kernel) rfl
theorem q590 : Cond.fieldLink "PinEngines" (281 : Nat) "PinEngines$Machine" "engines" "[LPinEngines$Engine;" ∈ tb := tb_at 590 (by decide +kernel) rfl
theorem q591 : Cond.fieldLink "PinEngines$Machine" (64 : Nat) "PinEngines$Machine" "scheduledCount" "I" ∈ tb := tb_at 591 (by decide +kernel) rfl
theorem q592 : Cond.fieldLink "PinEngines" (260 : Nat) "PinEngines$Machine" "scheduledCount" "I" ∈ tb := tb_at 592 (by decide +kernel) rfl
theorem q593 : Cond.fieldLink "PinEngines$Machine" (21 : Nat) "PinEngines$Machine" "scheduled" "[I" ∈ tb := tb_at 593 (by decide +kernel) rfl
theorem q594 : Cond.fieldLink "PinEngines$Machine" (71 : Nat) "PinEngines$Machine" "lastLevels" "I" ∈ tb := tb_at 594 (by decide +kernel) rfl
theorem q595 : Cond.fieldLink "PinEngines$Machine" (24 : Nat) "PinEngines$Machine" "trail" "[I" ∈ tb := tb_at 595 (by decide +kernel) rfl
theorem q596 : Cond.fieldLink "PinEngines$Machine" (27 : Nat) "PinEngines$Machine" "edges" "[I" ∈ tb := tb_at 596 (by decide +kernel) rfl
theorem q597 : Cond.fieldLink "PinEngines" (223 : Nat) "PinEngines$Machine" "edges" "[I" ∈ tb := tb_at 597 (by decide +kernel) rfl
theorem q598 : Cond.fieldLink "PinEngines$Machine" (30 : Nat) "PinEngines$Machine" "fallsLessRises" "[I" ∈ tb := tb_at 598 (by decide +kernel) rfl
theorem q599 : Cond.lays "PinEngines$Machine" "PinEngines$Machine" "clock" "I" ∈ tb := tb_at 599 (by decide +kernel) rfl
theorem q601 : Cond.lays "PinEngines$Machine" "PinEngines$Machine" "latches" "I" ∈ tb := tb_at 601 (by decide +kernel) rfl
theorem q603 : Cond.lays "PinEngines$Machine" "PinEngines$Machine" "outputs" "I" ∈ tb := tb_at 603 (by decide +kernel) rfl
theorem q605 : Cond.lays "PinEngines$Machine" "PinEngines$Machine" "outside" "I" ∈ tb := tb_at 605 (by decide +kernel) rfl
theorem q607 : Cond.lays "PinEngines$Machine" "PinEngines$Machine" "flags" "I" ∈ tb := tb_at 607 (by decide +kernel) rfl
theorem q609 : Cond.lays "PinEngines$Machine" "PinEngines$Machine" "portOwner" "I" ∈ tb := tb_at 609 (by decide +kernel) rfl
theorem q611 : Cond.laysFinal "PinEngines$Machine" "PinEngines$Machine" "memory" "[I" ∈ tb := tb_at 611 (by decide +kernel) rfl
theorem q613 : Cond.laysFinal "PinEngines$Machine" "PinEngines$Machine" "engines" "[LPinEngines$Engine;" ∈ tb := tb_at 613 (by decide +kernel) rfl
theorem q615 : Cond.lays "PinEngines$Machine" "PinEngines$Machine" "scheduledCount" "I" ∈ tb := tb_at 615 (by decide +kernel) rfl
theorem q617 : Cond.laysFinal "PinEngines$Machine" "PinEngines$Machine" "scheduled" "[I" ∈ tb := tb_at 617 (by decide +kernel) rfl
theorem q619 : Cond.lays "PinEngines$Machine" "PinEngines$Machine" "lastLevels" "I" ∈ tb := tb_at 619 (by decide +kernel) rfl
theorem q621 : Cond.laysFinal "PinEngines$Machine" "PinEngines$Machine" "trail" "[I" ∈ tb := tb_at 621 (by decide +kernel) rfl
theorem q623 : Cond.laysFinal "PinEngines$Machine" "PinEngines$Machine" "edges" "[I" ∈ tb := tb_at 623 (by decide +kernel) rfl
theorem q625 : Cond.laysFinal "PinEngines$Machine" "PinEngines$Machine" "fallsLessRises" "[I" ∈ tb := tb_at 625 (by decide +kernel) rfl
theorem q628 : Cond.classLink "PinEngines" (58 : Nat) "PinEngines$Simulator" ∈ tb := tb_at 628 (by decide +kernel) rfl
theorem q629 : Cond.instantiable "PinEngines$Simulator" (7 : Nat) ∈ tb := tb_at 629 (by decide +kernel) rfl
theorem q630 : Cond.methodLink "PinEngines" (60 : Nat) ({ cls := "PinEngines$Simulator", name := "<init>", desc := "(LPinEngines$Program;LPinEngines$Machine;)V" } : Jvm.MethodName) ∈ tb := tb_at 630 (by decide +kernel) rfl
theorem q631 : Cond.instanceMethod ({ cls := "PinEngines$Simulator", name := "<init>", desc := "(LPinEngines$Program;LPinEngines$Machine;)V" } : Jvm.MethodName) ∈ tb := tb_at 631 (by decide +kernel) rfl
theorem q632 : Cond.code ({ cls := "PinEngines$Simulator", name := "<init>", desc := "(LPinEngines$Program;LPinEngines$Machine;)V" } : Jvm.MethodName) prog_11_method_1_code (3 : Nat) (Option.none : Option Jvm.ClassFile.FieldType) ∈ tb := tb_at 632 (by decide +kernel) rfl
theorem q633 : Cond.methodLink "PinEngines$Simulator" (3 : Nat) ({ cls := "java/lang/Object", name := "<init>", desc := "()V" } : Jvm.MethodName) ∈ tb := tb_at 633 (by decide +kernel) rfl
theorem q634 : Cond.fieldLink "PinEngines$Simulator" (9 : Nat) "PinEngines$Simulator" "program" "LPinEngines$Program;" ∈ tb := tb_at 634 (by decide +kernel) rfl
theorem q635 : Cond.fieldLink "PinEngines" (123 : Nat) "PinEngines$Simulator" "program" "LPinEngines$Program;" ∈ tb := tb_at 635 (by decide +kernel) rfl
theorem q636 : Cond.fieldLink "PinEngines$Simulator" (15 : Nat) "PinEngines$Simulator" "machine" "LPinEngines$Machine;" ∈ tb := tb_at 636 (by decide +kernel) rfl
theorem q637 : Cond.fieldLink "PinEngines$Simulator" (28 : Nat) "PinEngines$Simulator" "levels" "I" ∈ tb := tb_at 637 (by decide +kernel) rfl
theorem q638 : Cond.fieldLink "PinEngines$Simulator" (34 : Nat) "PinEngines$Simulator" "flags" "I" ∈ tb := tb_at 638 (by decide +kernel) rfl
theorem q639 : Cond.fieldLink "PinEngines$Simulator" (35 : Nat) "PinEngines$Simulator" "raised" "I" ∈ tb := tb_at 639 (by decide +kernel) rfl
theorem q640 : Cond.fieldLink "PinEngines$Simulator" (38 : Nat) "PinEngines$Simulator" "cleared" "I" ∈ tb := tb_at 640 (by decide +kernel) rfl
theorem q641 : Cond.fieldLink "PinEngines$Simulator" (111 : Nat) "PinEngines$Simulator" "nextPc" "I" ∈ tb := tb_at 641 (by decide +kernel) rfl
theorem q642 : Cond.lays "PinEngines$Simulator" "PinEngines$Simulator" "program" "LPinEngines$Program;" ∈ tb := tb_at 642 (by decide +kernel) rfl
theorem q644 : Cond.lays "PinEngines$Simulator" "PinEngines$Simulator" "machine" "LPinEngines$Machine;" ∈ tb := tb_at 644 (by decide +kernel) rfl
theorem q646 : Cond.lays "PinEngines$Simulator" "PinEngines$Simulator" "levels" "I" ∈ tb := tb_at 646 (by decide +kernel) rfl
theorem q648 : Cond.lays "PinEngines$Simulator" "PinEngines$Simulator" "flags" "I" ∈ tb := tb_at 648 (by decide +kernel) rfl
theorem q650 : Cond.lays "PinEngines$Simulator" "PinEngines$Simulator" "raised" "I" ∈ tb := tb_at 650 (by decide +kernel) rfl
theorem q652 : Cond.lays "PinEngines$Simulator" "PinEngines$Simulator" "cleared" "I" ∈ tb := tb_at 652 (by decide +kernel) rfl
theorem q654 : Cond.lays "PinEngines$Simulator" "PinEngines$Simulator" "nextPc" "I" ∈ tb := tb_at 654 (by decide +kernel) rfl
theorem q657 : Cond.classLink "PinEngines" (67 : Nat) "PinEngines$QueryReader" ∈ tb := tb_at 657 (by decide +kernel) rfl
theorem q658 : Cond.instantiable "PinEngines$QueryReader" (4 : Nat) ∈ tb := tb_at 658 (by decide +kernel) rfl
theorem q659 : Cond.methodLink "PinEngines" (69 : Nat) ({ cls := "PinEngines$QueryReader", name := "<init>", desc := "(LPinEngines$Tokens;LPinEngines$Machine;)V" } : Jvm.MethodName) ∈ tb := tb_at 659 (by decide +kernel) rfl
theorem q660 : Cond.instanceMethod ({ cls := "PinEngines$QueryReader", name := "<init>", desc := "(LPinEngines$Tokens;LPinEngines$Machine;)V" } : Jvm.MethodName) ∈ tb := tb_at 660 (by decide +kernel) rfl
theorem q661 : Cond.code ({ cls := "PinEngines$QueryReader", name := "<init>", desc := "(LPinEngines$Tokens;LPinEngines$Machine;)V" } : Jvm.MethodName) prog_8_method_1_code (3 : Nat) (Option.none : Option Jvm.ClassFile.FieldType) ∈ tb := tb_at 661 (by decide +kernel) rfl
theorem q662 : Cond.methodLink "PinEngines$QueryReader" (3 : Nat) ({ cls := "java/lang/Object", name := "<init>", desc := "()V" } : Jvm.MethodName) ∈ tb := tb_at 662 (by decide +kernel) rfl
theorem q663 : Cond.fieldLink "PinEngines$QueryReader" (18 : Nat) "PinEngines$QueryReader" "tokens" "LPinEngines$Tokens;" ∈ tb := tb_at 663 (by decide +kernel) rfl
theorem q664 : Cond.fieldLink "PinEngines$QueryReader" (22 : Nat) "PinEngines$QueryReader" "machine" "LPinEngines$Machine;" ∈ tb := tb_at 664 (by decide +kernel) rfl
theorem q665 : Cond.fieldLink "PinEngines$QueryReader" (9 : Nat) "PinEngines$QueryReader" "left" "[I" ∈ tb := tb_at 665 (by decide +kernel) rfl
theorem q666 : Cond.fieldLink "PinEngines$QueryReader" (15 : Nat) "PinEngines$QueryReader" "right" "[I" ∈ tb := tb_at 666 (by decide +kernel) rfl
theorem q667 : Cond.laysFinal "PinEngines$QueryReader" "PinEngines$QueryReader" "tokens" "LPinEngines$Tokens;" ∈ tb := tb_at 667 (by decide +kernel) rfl
theorem q669 : Cond.laysFinal "PinEngines$QueryReader" "PinEngines$QueryReader" "machine" "LPinEngines$Machine;" ∈ tb := tb_at 669 (by decide +kernel) rfl
theorem q671 : Cond.laysFinal "PinEngines$QueryReader" "PinEngines$QueryReader" "left" "[I" ∈ tb := tb_at 671 (by decide +kernel) rfl
theorem q673 : Cond.laysFinal "PinEngines$QueryReader" "PinEngines$QueryReader" "right" "[I" ∈ tb := tb_at 673 (by decide +kernel) rfl
theorem q677 : Cond.classLink "PinEngines" (93 : Nat) "java/lang/StringBuilder" ∈ tb := tb_at 677 (by decide +kernel) rfl
theorem q678 : Cond.instantiable "java/lang/StringBuilder" (4 : Nat) ∈ tb := tb_at 678 (by decide +kernel) rfl
theorem q679 : Cond.methodLink "PinEngines" (95 : Nat) ({ cls := "java/lang/StringBuilder", name := "<init>", desc := "()V" } : Jvm.MethodName) ∈ tb := tb_at 679 (by decide +kernel) rfl
theorem q680 : Cond.instanceMethod ({ cls := "java/lang/StringBuilder", name := "<init>", desc := "()V" } : Jvm.MethodName) ∈ tb := tb_at 680 (by decide +kernel) rfl
theorem q681 : Cond.code ({ cls := "java/lang/StringBuilder", name := "<init>", desc := "()V" } : Jvm.MethodName) prog_30_method_1_code (1 : Nat) (Option.none : Option Jvm.ClassFile.FieldType) ∈ tb := tb_at 681 (by decide +kernel) rfl
theorem q682 : Cond.methodLink "java/lang/StringBuilder" (1 : Nat) ({ cls := "java/lang/AbstractStringBuilder", name := "<init>", desc := "(I)V" } : Jvm.MethodName) ∈ tb := tb_at 682 (by decide +kernel) rfl
theorem q683 : Cond.instanceMethod ({ cls := "java/lang/AbstractStringBuilder", name := "<init>", desc := "(I)V" } : Jvm.MethodName) ∈ tb := tb_at 683 (by decide +kernel) rfl
theorem q684 : Cond.code ({ cls := "java/lang/AbstractStringBuilder", name := "<init>", desc := "(I)V" } : Jvm.MethodName) prog_17_method_2_code (2 : Nat) (Option.none : Option Jvm.ClassFile.FieldType) ∈ tb := tb_at 684 (by decide +kernel) rfl
theorem q685 : Cond.methodLink "java/lang/AbstractStringBuilder" (3 : Nat) ({ cls := "java/lang/Object", name := "<init>", desc := "()V" } : Jvm.MethodName) ∈ tb := tb_at 685 (by decide +kernel) rfl
theorem q686 : Cond.fieldLink "java/lang/AbstractStringBuilder" (18 : Nat) "java/lang/String" "COMPACT_STRINGS" "Z" ∈ tb := tb_at 686 (by decide +kernel) rfl
theorem q688 : Cond.methodLink "java/lang/AbstractStringBuilder" (26 : Nat) ({ cls := "java/lang/StringUTF16", name := "newBytesFor", desc := "(I)[B" } : Jvm.MethodName) ∈ tb := tb_at 688 (by decide +kernel) rfl
theorem q689 : Cond.static ({ cls := "java/lang/StringUTF16", name := "newBytesFor", desc := "(I)[B" } : Jvm.MethodName) ∈ tb := tb_at 689 (by decide +kernel) rfl
theorem q690 : Cond.code ({ cls := "java/lang/StringUTF16", name := "newBytesFor", desc := "(I)[B" } : Jvm.MethodName) prog_32_method_2_code (1 : Nat) (Option.some (Jvm.ClassFile.FieldType.array Jvm.ClassFile.FieldType.byte)) ∈ tb := tb_at 690 (by decide +kernel) rfl
theorem q691 : Cond.methodLink "java/lang/StringUTF16" (11 : Nat) ({ cls := "java/lang/StringUTF16", name := "newBytesLength", desc := "(I)I" } : Jvm.MethodName) ∈ tb := tb_at 691 (by decide +kernel) rfl
theorem q692 : Cond.static ({ cls := "java/lang/StringUTF16", name := "newBytesLength", desc := "(I)I" } : Jvm.MethodName) ∈ tb := tb_at 692 (by decide +kernel) rfl
theorem q693 : Cond.code ({ cls := "java/lang/StringUTF16", name := "newBytesLength", desc := "(I)I" } : Jvm.MethodName) prog_32_method_3_code (1 : Nat) (Option.some Jvm.ClassFile.FieldType.int) ∈ tb := tb_at 693 (by decide +kernel) rfl
theorem q694 : Cond.constant "java/lang/StringUTF16" (20 : Nat) (1073741823 : Int32) ∈ tb := tb_at 694 (by decide +kernel) rfl
theorem q695 : Cond.fieldLink "java/lang/AbstractStringBuilder" (15 : Nat) "java/lang/AbstractStringBuilder" "value" "[B" ∈ tb := tb_at 695 (by decide +kernel) rfl
theorem q696 : Cond.fieldLink "java/lang/AbstractStringBuilder" (22 : Nat) "java/lang/AbstractStringBuilder" "coder" "B" ∈ tb := tb_at 696 (by decide +kernel) rfl
theorem q697 : Cond.fieldLink "java/lang/AbstractStringBuilder" (73 : Nat) "java/lang/AbstractStringBuilder" "maybeLatin1" "Z" ∈ tb := tb_at 697 (by decide +kernel) rfl
theorem q698 : Cond.fieldLink "java/lang/String" (1048 : Nat) "java/lang/AbstractStringBuilder" "maybeLatin1" "Z" ∈ tb := tb_at 698 (by decide +kernel) rfl
theorem q699 : Cond.fieldLink "java/lang/AbstractStringBuilder" (79 : Nat) "java/lang/AbstractStringBuilder" "count" "I" ∈ tb := tb_at 699 (by decide +kernel) rfl
theorem q700 : Cond.lays "java/lang/StringBuilder" "java/lang/AbstractStringBuilder" "value" "[B" ∈ tb := tb_at 700 (by decide +kernel) rfl
theorem q702 : Cond.lays "java/lang/StringBuilder" "java/lang/AbstractStringBuilder" "coder" "B" ∈ tb := tb_at 702 (by decide +kernel) rfl
theorem q704 : Cond.lays "java/lang/StringBuilder" "java/lang/AbstractStringBuilder" "maybeLatin1" "Z" ∈ tb := tb_at 704 (by decide +kernel) rfl
theorem q706 : Cond.lays "java/lang/StringBuilder" "java/lang/AbstractStringBuilder" "count" "I" ∈ tb := tb_at 706 (by decide +kernel) rfl
theorem q709 : Cond.methodLink "PinEngines" (100 : Nat) ({ cls := "PinEngines$Machine", name := "begin", desc := "(LPinEngines$Program;)V" } : Jvm.MethodName) ∈ tb := tb_at 709 (by decide +kernel) rfl
theorem q710 : Cond.instanceMethod ({ cls := "PinEngines$Machine", name := "begin", desc := "(LPinEngines$Program;)V" } : Jvm.MethodName) ∈ tb := tb_at 710 (by decide +kernel) rfl
theorem q711 : Cond.selects "PinEngines$Machine" ({ cls := "PinEngines$Machine", name := "begin", desc := "(LPinEngines$Program;)V" } : Jvm.MethodName) ({ cls := "PinEngines$Machine", name := "begin", desc := "(LPinEngines$Program;)V" } : Jvm.MethodName) ∈ tb := tb_at 711 (by decide +kernel) rfl
theorem q712 : Cond.code ({ cls := "PinEngines$Machine", name := "begin", desc := "(LPinEngines$Program;)V" } : Jvm.MethodName) prog_5_method_2_code (3 : Nat) (Option.none : Option Jvm.ClassFile.FieldType) ∈ tb := tb_at 712 (by decide +kernel) rfl
theorem q713 : Cond.methodLink "PinEngines$Machine" (60 : Nat) ({ cls := "PinEngines$Engine", name := "begin", desc := "(LPinEngines$Setup;)V" } : Jvm.MethodName) ∈ tb := tb_at 713 (by decide +kernel) rfl
theorem q714 : Cond.instanceMethod ({ cls := "PinEngines$Engine", name := "begin", desc := "(LPinEngines$Setup;)V" } : Jvm.MethodName) ∈ tb := tb_at 714 (by decide +kernel) rfl
theorem q715 : Cond.selects "PinEngines$Engine" ({ cls := "PinEngines$Engine", name := "begin", desc := "(LPinEngines$Setup;)V" } : Jvm.MethodName) ({ cls := "PinEngines$Engine", name := "begin", desc := "(LPinEngines$Setup;)V" } : Jvm.MethodName) ∈ tb := tb_at 715 (by decide +kernel) rfl
theorem q716 : Cond.code ({ cls := "PinEngines$Engine", name := "begin", desc := "(LPinEngines$Setup;)V" } : Jvm.MethodName) prog_3_method_2_code (3 : Nat) (Option.none : Option Jvm.ClassFile.FieldType) ∈ tb := tb_at 716 (by decide +kernel) rfl
theorem q717 : Cond.methodLink "PinEngines$Engine" (25 : Nat) ({ cls := "PinEngines$Engine", name := "reset", desc := "(LPinEngines$Setup;)V" } : Jvm.MethodName) ∈ tb := tb_at 717 (by decide +kernel) rfl
theorem q718 : Cond.instanceMethod ({ cls := "PinEngines$Engine", name := "reset", desc := "(LPinEngines$Setup;)V" } : Jvm.MethodName) ∈ tb := tb_at 718 (by decide +kernel) rfl
theorem q719 : Cond.selects "PinEngines$Engine" ({ cls := "PinEngines$Engine", name := "reset", desc := "(LPinEngines$Setup;)V" } : Jvm.MethodName) ({ cls := "PinEngines$Engine", name := "reset", desc := "(LPinEngines$Setup;)V" } : Jvm.MethodName) ∈ tb := tb_at 719 (by decide +kernel) rfl
theorem q720 : Cond.code ({ cls := "PinEngines$Engine", name := "reset", desc := "(LPinEngines$Setup;)V" } : Jvm.MethodName) prog_3_method_3_code (2 : Nat) (Option.none : Option Jvm.ClassFile.FieldType) ∈ tb := tb_at 720 (by decide +kernel) rfl
theorem q721 : Cond.methodLink "PinEngines$Engine" (75 : Nat) ({ cls := "PinEngines$Queue", name := "clear", desc := "(I)V" } : Jvm.MethodName) ∈ tb := tb_at 721 (by decide +kernel) rfl
theorem q722 : Cond.instanceMethod ({ cls := "PinEngines$Queue", name := "clear", desc := "(I)V" } : Jvm.MethodName) ∈ tb := tb_at 722 (by decide +kernel) rfl
theorem q723 : Cond.selects "PinEngines$Queue" ({ cls := "PinEngines$Queue", name := "clear", desc := "(I)V" } : Jvm.MethodName) ({ cls := "PinEngines$Queue", name := "clear", desc := "(I)V" } : Jvm.MethodName) ∈ tb := tb_at 723 (by decide +kernel) rfl
theorem q724 : Cond.code ({ cls := "PinEngines$Queue", name := "clear", desc := "(I)V" } : Jvm.MethodName) prog_9_method_2_code (2 : Nat) (Option.none : Option Jvm.ClassFile.FieldType) ∈ tb := tb_at 724 (by decide +kernel) rfl
theorem q725 : Cond.methodLink "PinEngines$Queue" (25 : Nat) ({ cls := "java/lang/Math", name := "min", desc := "(II)I" } : Jvm.MethodName) ∈ tb := tb_at 725 (by decide +kernel) rfl
theorem q726 : Cond.static ({ cls := "java/lang/Math", name := "min", desc := "(II)I" } : Jvm.MethodName) ∈ tb := tb_at 726 (by decide +kernel) rfl
theorem q727 : Cond.code Lib.Math.min.name Lib.Math.min.code 2 (Option.some Jvm.ClassFile.FieldType.int) ∈ tb := tb_at 727 (by decide +kernel) rfl
theorem q728 : Cond.methodLink "PinEngines$Queue" (31 : Nat) ({ cls := "java/lang/Math", name := "max", desc := "(II)I" } : Jvm.MethodName) ∈ tb := tb_at 728 (by decide +kernel) rfl
theorem q729 : Cond.static ({ cls := "java/lang/Math", name := "max", desc := "(II)I" } : Jvm.MethodName) ∈ tb := tb_at 729 (by decide +kernel) rfl
theorem q730 : Cond.code Lib.Math.max.name Lib.Math.max.code 2 (Option.some Jvm.ClassFile.FieldType.int) ∈ tb := tb_at 730 (by decide +kernel) rfl
theorem q731 : Cond.methodLink "PinEngines$Engine" (79 : Nat) ({ cls := "PinEngines$Setup", name := "outputRoom", desc := "()I" } : Jvm.MethodName) ∈ tb := tb_at 731 (by decide +kernel) rfl
theorem q732 : Cond.instanceMethod ({ cls := "PinEngines$Setup", name := "outputRoom", desc := "()I" } : Jvm.MethodName) ∈ tb := tb_at 732 (by decide +kernel) rfl
theorem q733 : Cond.selects "PinEngines$Setup" ({ cls := "PinEngines$Setup", name := "outputRoom", desc := "()I" } : Jvm.MethodName) ({ cls := "PinEngines$Setup", name := "outputRoom", desc := "()I" } : Jvm.MethodName) ∈ tb := tb_at 733 (by decide +kernel) rfl
theorem q734 : Cond.code ({ cls := "PinEngines$Setup", name := "outputRoom", desc := "()I" } : Jvm.MethodName) prog_10_method_3_code (1 : Nat) (Option.some Jvm.ClassFile.FieldType.int) ∈ tb := tb_at 734 (by decide +kernel) rfl
theorem q735 : Cond.methodLink "PinEngines$Machine" (67 : Nat) ({ cls := "PinEngines$Machine", name := "levels", desc := "()I" } : Jvm.MethodName) ∈ tb := tb_at 735 (by decide +kernel) rfl
theorem q736 : Cond.instanceMethod ({ cls := "PinEngines$Machine", name := "levels", desc := "()I" } : Jvm.MethodName) ∈ tb := tb_at 736 (by decide +kernel) rfl
theorem q737 : Cond.selects "PinEngines$Machine" ({ cls := "PinEngines$Machine", name := "levels", desc := "()I" } : Jvm.MethodName) ({ cls := "PinEngines$Machine", name := "levels", desc := "()I" } : Jvm.MethodName) ∈ tb := tb_at 737 (by decide +kernel) rfl
theorem q738 : Cond.code ({ cls := "PinEngines$Machine", name := "levels", desc := "()I" } : Jvm.MethodName) prog_5_method_4_code (1 : Nat) (Option.some Jvm.ClassFile.FieldType.int) ∈ tb := tb_at 738 (by decide +kernel) rfl
theorem q739 : Cond.fieldLink "PinEngines" (9 : Nat) "PinEngines" "buffer" "[B" ∈ tb := tb_at 739 (by decide +kernel) rfl
theorem q740 : Cond.fieldLink "PinEngines" (13 : Nat) "PinEngines" "buffered" "I" ∈ tb := tb_at 740 (by decide +kernel) rfl
theorem q741 : Cond.fieldLink "PinEngines" (17 : Nat) "PinEngines" "errorPosition" "I" ∈ tb := tb_at 741 (by decide +kernel) rfl
theorem q742 : Cond.fieldLink "PinEngines" (25 : Nat) "PinEngines" "tokens" "LPinEngines$Tokens;" ∈ tb := tb_at 742 (by decide +kernel) rfl
theorem q743 : Cond.fieldLink "PinEngines" (32 : Nat) "PinEngines" "program" "LPinEngines$Program;" ∈ tb := tb_at 743 (by decide +kernel) rfl
theorem q744 : Cond.fieldLink "PinEngines" (36 : Nat) "PinEngines" "spareProgram" "LPinEngines$Program;" ∈ tb := tb_at 744 (by decide +kernel) rfl
theorem q745 : Cond.fieldLink "PinEngines" (44 : Nat) "PinEngines" "programReader" "LPinEngines$ProgramReader;" ∈ tb := tb_at 745 (by decide +kernel) rfl
theorem q746 : Cond.fieldLink "PinEngines" (51 : Nat) "PinEngines" "machine" "LPinEngines$Machine;" ∈ tb := tb_at 746 (by decide +kernel) rfl
theorem q747 : Cond.fieldLink "PinEngines" (55 : Nat) "PinEngines" "copy" "LPinEngines$Machine;" ∈ tb := tb_at 747 (by decide +kernel) rfl
theorem q748 : Cond.fieldLink "PinEngines" (63 : Nat) "PinEngines" "simulator" "LPinEngines$Simulator;" ∈ tb := tb_at 748 (by decide +kernel) rfl
theorem q749 : Cond.fieldLink "PinEngines" (72 : Nat) "PinEngines" "queryReader" "LPinEngines$QueryReader;" ∈ tb := tb_at 749 (by decide +kernel) rfl
theorem q750 : Cond.fieldLink "PinEngines" (76 : Nat) "PinEngines" "snapshot" "LPinEngines$Machine;" ∈ tb := tb_at 750 (by decide +kernel) rfl
theorem q751 : Cond.fieldLink "PinEngines" (79 : Nat) "PinEngines" "hasSnapshot" "Z" ∈ tb := tb_at 751 (by decide +kernel) rfl
theorem q752 : Cond.fieldLink "PinEngines" (83 : Nat) "PinEngines" "past" "[LPinEngines$Machine;" ∈ tb := tb_at 752 (by decide +kernel) rfl
theorem q753 : Cond.fieldLink "PinEngines" (87 : Nat) "PinEngines" "pastEnd" "I" ∈ tb := tb_at 753 (by decide +kernel) rfl
theorem q754 : Cond.fieldLink "PinEngines" (90 : Nat) "PinEngines" "pastCount" "I" ∈ tb := tb_at 754 (by decide +kernel) rfl
theorem q755 : Cond.fieldLink "PinEngines" (96 : Nat) "PinEngines" "formatted" "Ljava/lang/StringBuilder;" ∈ tb := tb_at 755 (by decide +kernel) rfl
theorem q756 : Cond.laysFinal "PinEngines" "PinEngines" "buffer" "[B" ∈ tb := tb_at 756 (by decide +kernel) rfl
theorem q758 : Cond.lays "PinEngines" "PinEngines" "buffered" "I" ∈ tb := tb_at 758 (by decide +kernel) rfl
theorem q760 : Cond.lays "PinEngines" "PinEngines" "errorPosition" "I" ∈ tb := tb_at 760 (by decide +kernel) rfl
theorem q762 : Cond.laysFinal "PinEngines" "PinEngines" "tokens" "LPinEngines$Tokens;" ∈ tb := tb_at 762 (by decide +kernel) rfl
theorem q764 : Cond.lays "PinEngines" "PinEngines" "program" "LPinEngines$Program;" ∈ tb := tb_at 764 (by decide +kernel) rfl
theorem q766 : Cond.lays "PinEngines" "PinEngines" "spareProgram" "LPinEngines$Program;" ∈ tb := tb_at 766 (by decide +kernel) rfl
theorem q768 : Cond.laysFinal "PinEngines" "PinEngines" "programReader" "LPinEngines$ProgramReader;" ∈ tb := tb_at 768 (by decide +kernel) rfl
theorem q770 : Cond.laysFinal "PinEngines" "PinEngines" "machine" "LPinEngines$Machine;" ∈ tb := tb_at 770 (by decide +kernel) rfl
theorem q772 : Cond.laysFinal "PinEngines" "PinEngines" "copy" "LPinEngines$Machine;" ∈ tb := tb_at 772 (by decide +kernel) rfl
theorem q774 : Cond.laysFinal "PinEngines" "PinEngines" "simulator" "LPinEngines$Simulator;" ∈ tb := tb_at 774 (by decide +kernel) rfl
theorem q776 : Cond.laysFinal "PinEngines" "PinEngines" "queryReader" "LPinEngines$QueryReader;" ∈ tb := tb_at 776 (by decide +kernel) rfl
theorem q778 : Cond.laysFinal "PinEngines" "PinEngines" "snapshot" "LPinEngines$Machine;" ∈ tb := tb_at 778 (by decide +kernel) rfl
theorem q780 : Cond.lays "PinEngines" "PinEngines" "hasSnapshot" "Z" ∈ tb := tb_at 780 (by decide +kernel) rfl
theorem q782 : Cond.laysFinal "PinEngines" "PinEngines" "past" "[LPinEngines$Machine;" ∈ tb := tb_at 782 (by decide +kernel) rfl
theorem q784 : Cond.lays "PinEngines" "PinEngines" "pastEnd" "I" ∈ tb := tb_at 784 (by decide +kernel) rfl
theorem q786 : Cond.lays "PinEngines" "PinEngines" "pastCount" "I" ∈ tb := tb_at 786 (by decide +kernel) rfl
theorem q788 : Cond.laysFinal "PinEngines" "PinEngines" "formatted" "Ljava/lang/StringBuilder;" ∈ tb := tb_at 788 (by decide +kernel) rfl
theorem q791 : Cond.methodLink "PinEnginesLaw" (127 : Nat) ({ cls := "PinEngines", name := "feed", desc := "(IIIII)I" } : Jvm.MethodName) ∈ tb := tb_at 791 (by decide +kernel) rfl
theorem q792 : Cond.instanceMethod ({ cls := "PinEngines", name := "feed", desc := "(IIIII)I" } : Jvm.MethodName) ∈ tb := tb_at 792 (by decide +kernel) rfl
theorem q793 : Cond.selects "PinEngines" ({ cls := "PinEngines", name := "feed", desc := "(IIIII)I" } : Jvm.MethodName) ({ cls := "PinEngines", name := "feed", desc := "(IIIII)I" } : Jvm.MethodName) ∈ tb := tb_at 793 (by decide +kernel) rfl
theorem q794 : Cond.code ({ cls := "PinEngines", name := "feed", desc := "(IIIII)I" } : Jvm.MethodName) prog_1_method_2_code (6 : Nat) (Option.some Jvm.ClassFile.FieldType.int) ∈ tb := tb_at 794 (by decide +kernel) rfl
theorem q795 : Cond.methodLink "PinEngines" (104 : Nat) ({ cls := "PinEngines", name := "appendBytes", desc := "(I)V" } : Jvm.MethodName) ∈ tb := tb_at 795 (by decide +kernel) rfl
theorem q797 : Cond.instanceMethod ({ cls := "PinEngines", name := "appendBytes", desc := "(I)V" } : Jvm.MethodName) ∈ tb := tb_at 797 (by decide +kernel) rfl
theorem q798 : Cond.code ({ cls := "PinEngines", name := "appendBytes", desc := "(I)V" } : Jvm.MethodName) prog_1_method_47_code (3 : Nat) (Option.none : Option Jvm.ClassFile.FieldType) ∈ tb := tb_at 798 (by decide +kernel) rfl
theorem q799 : Cond.methodLink "PinEnginesLaw" (142 : Nat) ({ cls := "PinEngines", name := "errorPosition", desc := "()I" } : Jvm.MethodName) ∈ tb := tb_at 799 (by decide +kernel) rfl
theorem q800 : Cond.instanceMethod ({ cls := "PinEngines", name := "errorPosition", desc := "()I" } : Jvm.MethodName) ∈ tb := tb_at 800 (by decide +kernel) rfl
theorem q801 : Cond.selects "PinEngines" ({ cls := "PinEngines", name := "errorPosition", desc := "()I" } : Jvm.MethodName) ({ cls := "PinEngines", name := "errorPosition", desc := "()I" } : Jvm.MethodName) ∈ tb := tb_at 801 (by decide +kernel) rfl
theorem q802 : Cond.code ({ cls := "PinEngines", name := "errorPosition", desc := "()I" } : Jvm.MethodName) prog_1_method_4_code (1 : Nat) (Option.some Jvm.ClassFile.FieldType.int) ∈ tb := tb_at 802 (by decide +kernel) rfl
theorem q803 : Cond.methodLink "PinEnginesLaw" (146 : Nat) ({ cls := "PinEngines", name := "instructionCount", desc := "()I" } : Jvm.MethodName) ∈ tb := tb_at 803 (by decide +kernel) rfl
theorem q804 : Cond.instanceMethod ({ cls := "PinEngines", name := "instructionCount", desc := "()I" } : Jvm.MethodName) ∈ tb := tb_at 804 (by decide +kernel) rfl
theorem q805 : Cond.selects "PinEngines" ({ cls := "PinEngines", name := "instructionCount", desc := "()I" } : Jvm.MethodName) ({ cls := "PinEngines", name := "instructionCount", desc := "()I" } : Jvm.MethodName) ∈ tb := tb_at 805 (by decide +kernel) rfl
theorem q806 : Cond.code ({ cls := "PinEngines", name := "instructionCount", desc := "()I" } : Jvm.MethodName) prog_1_method_5_code (1 : Nat) (Option.some Jvm.ClassFile.FieldType.int) ∈ tb := tb_at 806 (by decide +kernel) rfl
theorem q807 : Cond.methodLink "PinEnginesLaw" (150 : Nat) ({ cls := "PinEngines", name := "engines", desc := "()I" } : Jvm.MethodName) ∈ tb := tb_at 807 (by decide +kernel) rfl
theorem q808 : Cond.instanceMethod ({ cls := "PinEngines", name := "engines", desc := "()I" } : Jvm.MethodName) ∈ tb := tb_at 808 (by decide +kernel) rfl
theorem q809 : Cond.selects "PinEngines" ({ cls := "PinEngines", name := "engines", desc := "()I" } : Jvm.MethodName) ({ cls := "PinEngines", name := "engines", desc := "()I" } : Jvm.MethodName) ∈ tb := tb_at 809 (by decide +kernel) rfl
theorem q810 : Cond.code ({ cls := "PinEngines", name := "engines", desc := "()I" } : Jvm.MethodName) prog_1_method_6_code (1 : Nat) (Option.some Jvm.ClassFile.FieldType.int) ∈ tb := tb_at 810 (by decide +kernel) rfl
theorem q811 : Cond.methodLink "PinEngines" (127 : Nat) ({ cls := "PinEngines$Program", name := "engineMask", desc := "()I" } : Jvm.MethodName) ∈ tb := tb_at 811 (by decide +kernel) rfl
theorem q812 : Cond.instanceMethod ({ cls := "PinEngines$Program", name := "engineMask", desc := "()I" } : Jvm.MethodName) ∈ tb := tb_at 812 (by decide +kernel) rfl
theorem q813 : Cond.selects "PinEngines$Program" ({ cls := "PinEngines$Program", name := "engineMask", desc := "()I" } : Jvm.MethodName) ({ cls := "PinEngines$Program", name := "engineMask", desc := "()I" } : Jvm.MethodName) ∈ tb := tb_at 813 (by decide +kernel) rfl
theorem q814 : Cond.code ({ cls := "PinEngines$Program", name := "engineMask", desc := "()I" } : Jvm.MethodName) prog_6_method_7_code (3 : Nat) (Option.some Jvm.ClassFile.FieldType.int) ∈ tb := tb_at 814 (by decide +kernel) rfl
theorem q815 : Cond.methodLink "PinEnginesLaw" (154 : Nat) ({ cls := "PinEngines", name := "clock", desc := "()I" } : Jvm.MethodName) ∈ tb := tb_at 815 (by decide +kernel) rfl
theorem q816 : Cond.instanceMethod ({ cls := "PinEngines", name := "clock", desc := "()I" } : Jvm.MethodName) ∈ tb := tb_at 816 (by decide +kernel) rfl
theorem q817 : Cond.selects "PinEngines" ({ cls := "PinEngines", name := "clock", desc := "()I" } : Jvm.MethodName) ({ cls := "PinEngines", name := "clock", desc := "()I" } : Jvm.MethodName) ∈ tb := tb_at 817 (by decide +kernel) rfl
theorem q818 : Cond.code ({ cls := "PinEngines", name := "clock", desc := "()I" } : Jvm.MethodName) prog_1_method_7_code (1 : Nat) (Option.some Jvm.ClassFile.FieldType.int) ∈ tb := tb_at 818 (by decide +kernel) rfl
theorem q819 : Cond.methodLink "PinEnginesLaw" (173 : Nat) ({ cls := "PinEngines", name := "portOwner", desc := "()I" } : Jvm.MethodName) ∈ tb := tb_at 819 (by decide +kernel) rfl
theorem q820 : Cond.instanceMethod ({ cls := "PinEngines", name := "portOwner", desc := "()I" } : Jvm.MethodName) ∈ tb := tb_at 820 (by decide +kernel) rfl
theorem q821 : Cond.selects "PinEngines" ({ cls := "PinEngines", name := "portOwner", desc := "()I" } : Jvm.MethodName) ({ cls := "PinEngines", name := "portOwner", desc := "()I" } : Jvm.MethodName) ∈ tb := tb_at 821 (by decide +kernel) rfl
theorem q822 : Cond.code ({ cls := "PinEngines", name := "portOwner", desc := "()I" } : Jvm.MethodName) prog_1_method_13_code (1 : Nat) (Option.some Jvm.ClassFile.FieldType.int) ∈ tb := tb_at 822 (by decide +kernel) rfl
theorem q823 : Cond.methodLink "PinEnginesLaw" (262 : Nat) ({ cls := "PinEngines", name := "formattedByte", desc := "(I)I" } : Jvm.MethodName) ∈ tb := tb_at 823 (by decide +kernel) rfl
theorem q824 : Cond.instanceMethod ({ cls := "PinEngines", name := "formattedByte", desc := "(I)I" } : Jvm.MethodName) ∈ tb := tb_at 824 (by decide +kernel) rfl
theorem q825 : Cond.selects "PinEngines" ({ cls := "PinEngines", name := "formattedByte", desc := "(I)I" } : Jvm.MethodName) ({ cls := "PinEngines", name := "formattedByte", desc := "(I)I" } : Jvm.MethodName) ∈ tb := tb_at 825 (by decide +kernel) rfl
theorem q826 : Cond.code ({ cls := "PinEngines", name := "formattedByte", desc := "(I)I" } : Jvm.MethodName) prog_1_method_41_code (2 : Nat) (Option.some Jvm.ClassFile.FieldType.int) ∈ tb := tb_at 826 (by decide +kernel) rfl
theorem q827 : Cond.methodLink "PinEngines" (311 : Nat) ({ cls := "java/lang/StringBuilder", name := "length", desc := "()I" } : Jvm.MethodName) ∈ tb := tb_at 827 (by decide +kernel) rfl
theorem q828 : Cond.instanceMethod ({ cls := "java/lang/StringBuilder", name := "length", desc := "()I" } : Jvm.MethodName) ∈ tb := tb_at 828 (by decide +kernel) rfl
theorem q829 : Cond.selects "java/lang/StringBuilder" ({ cls := "java/lang/StringBuilder", name := "length", desc := "()I" } : Jvm.MethodName) ({ cls := "java/lang/StringBuilder", name := "length", desc := "()I" } : Jvm.MethodName) ∈ tb := tb_at 829 (by decide +kernel) rfl
theorem q830 : Cond.code ({ cls := "java/lang/StringBuilder", name := "length", desc := "()I" } : Jvm.MethodName) prog_30_method_93_code (1 : Nat) (Option.some Jvm.ClassFile.FieldType.int) ∈ tb := tb_at 830 (by decide +kernel) rfl
theorem q831 : Cond.methodLink "java/lang/StringBuilder" (343 : Nat) ({ cls := "java/lang/AbstractStringBuilder", name := "length", desc := "()I" } : Jvm.MethodName) ∈ tb := tb_at 831 (by decide +kernel) rfl
theorem q832 : Cond.instanceMethod ({ cls := "java/lang/AbstractStringBuilder", name := "length", desc := "()I" } : Jvm.MethodName) ∈ tb := tb_at 832 (by decide +kernel) rfl
theorem q833 : Cond.code ({ cls := "java/lang/AbstractStringBuilder", name := "length", desc := "()I" } : Jvm.MethodName) prog_17_method_6_code (1 : Nat) (Option.some Jvm.ClassFile.FieldType.int) ∈ tb := tb_at 833 (by decide +kernel) rfl
theorem q834 : Cond.methodLink "PinEngines" (314 : Nat) ({ cls := "java/lang/StringBuilder", name := "charAt", desc := "(I)C" } : Jvm.MethodName) ∈ tb := tb_at 834 (by decide +kernel) rfl
theorem q835 : Cond.instanceMethod ({ cls := "java/lang/StringBuilder", name := "charAt", desc := "(I)C" } : Jvm.MethodName) ∈ tb := tb_at 835 (by decide +kernel) rfl
theorem q836 : Cond.selects "java/lang/StringBuilder" ({ cls := "java/lang/StringBuilder", name := "charAt", desc := "(I)C" } : Jvm.MethodName) ({ cls := "java/lang/StringBuilder", name := "charAt", desc := "(I)C" } : Jvm.MethodName) ∈ tb := tb_at 836 (by decide +kernel) rfl
theorem q837 : Cond.code ({ cls := "java/lang/StringBuilder", name := "charAt", desc := "(I)C" } : Jvm.MethodName) prog_30_method_88_code (2 : Nat) (Option.some Jvm.ClassFile.FieldType.char) ∈ tb := tb_at 837 (by decide +kernel) rfl
theorem q838 : Cond.methodLink "java/lang/StringBuilder" (329 : Nat) ({ cls := "java/lang/AbstractStringBuilder", name := "charAt", desc := "(I)C" } : Jvm.MethodName) ∈ tb := tb_at 838 (by decide +kernel) rfl
theorem q839 : Cond.instanceMethod ({ cls := "java/lang/AbstractStringBuilder", name := "charAt", desc := "(I)C" } : Jvm.MethodName) ∈ tb := tb_at 839 (by decide +kernel) rfl
theorem q840 : Cond.code ({ cls := "java/lang/AbstractStringBuilder", name := "charAt", desc := "(I)C" } : Jvm.MethodName) prog_17_method_14_code (5 : Nat) (Option.some Jvm.ClassFile.FieldType.char) ∈ tb := tb_at 840 (by decide +kernel) rfl
theorem q841 : Cond.methodLink "java/lang/AbstractStringBuilder" (138 : Nat) ({ cls := "java/lang/Math", name := "min", desc := "(II)I" } : Jvm.MethodName) ∈ tb := tb_at 841 (by decide +kernel) rfl
theorem q842 : Cond.methodLink "java/lang/AbstractStringBuilder" (144 : Nat) ({ cls := "java/lang/String", name := "checkIndex", desc := "(II)V" } : Jvm.MethodName) ∈ tb := tb_at 842 (by decide +kernel) rfl
theorem q843 : Cond.static ({ cls := "java/lang/String", name := "checkIndex", desc := "(II)V" } : Jvm.MethodName) ∈ tb := tb_at 843 (by decide +kernel) rfl
theorem q844 : Cond.code ({ cls := "java/lang/String", name := "checkIndex", desc := "(II)V" } : Jvm.MethodName) prog_29_method_155_code (2 : Nat) (Option.none : Option Jvm.ClassFile.FieldType) ∈ tb := tb_at 844 (by decide +kernel) rfl
theorem q845 : Cond.fieldLink "java/lang/String" (1053 : Nat) "jdk/internal/util/Preconditions" "SIOOBE_FORMATTER" "Ljava/util/function/BiFunction;" ∈ tb := tb_at 845 (by decide +kernel) rfl
theorem q847 : Cond.methodLink "java/lang/String" (1059 : Nat) ({ cls := "jdk/internal/util/Preconditions", name := "checkIndex", desc := "(IILjava/util/function/BiFunction;)I" } : Jvm.MethodName) ∈ tb := tb_at 847 (by decide +kernel) rfl
theorem q848 : Cond.static ({ cls := "jdk/internal/util/Preconditions", name := "checkIndex", desc := "(IILjava/util/function/BiFunction;)I" } : Jvm.MethodName) ∈ tb := tb_at 848 (by decide +kernel) rfl
theorem q849 : Cond.code ({ cls := "jdk/internal/util/Preconditions", name := "checkIndex", desc := "(IILjava/util/function/BiFunction;)I" } : Jvm.MethodName) prog_40_method_11_code (3 : Nat) (Option.some Jvm.ClassFile.FieldType.int) ∈ tb := tb_at 849 (by decide +kernel) rfl
theorem q850 : Cond.methodLink "java/lang/AbstractStringBuilder" (148 : Nat) ({ cls := "java/lang/StringUTF16", name := "getChar", desc := "([BI)C" } : Jvm.MethodName) ∈ tb := tb_at 850 (by decide +kernel) rfl
theorem q851 : Cond.static ({ cls := "java/lang/StringUTF16", name := "getChar", desc := "([BI)C" } : Jvm.MethodName) ∈ tb := tb_at 851 (by decide +kernel) rfl
theorem q852 : Cond.code ({ cls := "java/lang/StringUTF16", name := "getChar", desc := "([BI)C" } : Jvm.MethodName) prog_32_method_5_code (2 : Nat) (Option.some Jvm.ClassFile.FieldType.char) ∈ tb := tb_at 852 (by decide +kernel) rfl
theorem q853 : Cond.fieldLink "java/lang/StringUTF16" (44 : Nat) "java/lang/StringUTF16" "$assertionsDisabled" "Z" ∈ tb := tb_at 853 (by decide +kernel) rfl
theorem q855 : Cond.methodLink "java/lang/StringUTF16" (48 : Nat) ({ cls := "java/lang/StringUTF16", name := "length", desc := "([B)I" } : Jvm.MethodName) ∈ tb := tb_at 855 (by decide +kernel) rfl
theorem q856 : Cond.static ({ cls := "java/lang/StringUTF16", name := "length", desc := "([B)I" } : Jvm.MethodName) ∈ tb := tb_at 856 (by decide +kernel) rfl
theorem q857 : Cond.code ({ cls := "java/lang/StringUTF16", name := "length", desc := "([B)I" } : Jvm.MethodName) prog_32_method_6_code (1 : Nat) (Option.some Jvm.ClassFile.FieldType.int) ∈ tb := tb_at 857 (by decide +kernel) rfl
theorem q858 : Cond.fieldLink "java/lang/StringUTF16" (59 : Nat) "java/lang/StringUTF16" "HI_BYTE_SHIFT" "I" ∈ tb := tb_at 858 (by decide +kernel) rfl
theorem q860 : Cond.fieldLink "java/lang/StringUTF16" (63 : Nat) "java/lang/StringUTF16" "LO_BYTE_SHIFT" "I" ∈ tb := tb_at 860 (by decide +kernel) rfl
theorem q862 : Cond.methodLink "PinEnginesLaw" (266 : Nat) ({ cls := "PinEngines", name := "undoCount", desc := "()I" } : Jvm.MethodName) ∈ tb := tb_at 862 (by decide +kernel) rfl
theorem q863 : Cond.instanceMethod ({ cls := "PinEngines", name := "undoCount", desc := "()I" } : Jvm.MethodName) ∈ tb := tb_at 863 (by decide +kernel) rfl
theorem q864 : Cond.selects "PinEngines" ({ cls := "PinEngines", name := "undoCount", desc := "()I" } : Jvm.MethodName) ({ cls := "PinEngines", name := "undoCount", desc := "()I" } : Jvm.MethodName) ∈ tb := tb_at 864 (by decide +kernel) rfl
theorem q865 : Cond.code ({ cls := "PinEngines", name := "undoCount", desc := "()I" } : Jvm.MethodName) prog_1_method_42_code (1 : Nat) (Option.some Jvm.ClassFile.FieldType.int) ∈ tb := tb_at 865 (by decide +kernel) rfl
theorem q866 : Cond.methodLink "PinEnginesLaw" (270 : Nat) ({ cls := "PinEngines", name := "undo", desc := "()I" } : Jvm.MethodName) ∈ tb := tb_at 866 (by decide +kernel) rfl
theorem q867 : Cond.instanceMethod ({ cls := "PinEngines", name := "undo", desc := "()I" } : Jvm.MethodName) ∈ tb := tb_at 867 (by decide +kernel) rfl
theorem q868 : Cond.selects "PinEngines" ({ cls := "PinEngines", name := "undo", desc := "()I" } : Jvm.MethodName) ({ cls := "PinEngines", name := "undo", desc := "()I" } : Jvm.MethodName) ∈ tb := tb_at 868 (by decide +kernel) rfl
theorem q869 : Cond.code ({ cls := "PinEngines", name := "undo", desc := "()I" } : Jvm.MethodName) prog_1_method_43_code (1 : Nat) (Option.some Jvm.ClassFile.FieldType.int) ∈ tb := tb_at 869 (by decide +kernel) rfl
theorem q870 : Cond.methodLink "PinEngines" (274 : Nat) ({ cls := "PinEngines$Machine", name := "copyFrom", desc := "(LPinEngines$Machine;)V" } : Jvm.MethodName) ∈ tb := tb_at 870 (by decide +kernel) rfl
theorem q871 : Cond.instanceMethod ({ cls := "PinEngines$Machine", name := "copyFrom", desc := "(LPinEngines$Machine;)V" } : Jvm.MethodName) ∈ tb := tb_at 871 (by decide +kernel) rfl
theorem q872 : Cond.selects "PinEngines$Machine" ({ cls := "PinEngines$Machine", name := "copyFrom", desc := "(LPinEngines$Machine;)V" } : Jvm.MethodName) ({ cls := "PinEngines$Machine", name := "copyFrom", desc := "(LPinEngines$Machine;)V" } : Jvm.MethodName) ∈ tb := tb_at 872 (by decide +kernel) rfl
theorem q873 : Cond.code ({ cls := "PinEngines$Machine", name := "copyFrom", desc := "(LPinEngines$Machine;)V" } : Jvm.MethodName) prog_5_method_3_code (3 : Nat) (Option.none : Option Jvm.ClassFile.FieldType) ∈ tb := tb_at 873 (by decide +kernel) rfl
theorem q874 : Cond.methodLink "PinEngines$Machine" (74 : Nat) ({ cls := "java/lang/System", name := "arraycopy", desc := "(Ljava/lang/Object;ILjava/lang/Object;II)V" } : Jvm.MethodName) ∈ tb := tb_at 874 (by decide +kernel) rfl
theorem q875 : Cond.static ({ cls := "java/lang/System", name := "arraycopy", desc := "(Ljava/lang/Object;ILjava/lang/Object;II)V" } : Jvm.MethodName) ∈ tb := tb_at 875 (by decide +kernel) rfl
theorem q876 : Cond.native ({ cls := "java/lang/System", name := "arraycopy", desc := "(Ljava/lang/Object;ILjava/lang/Object;II)V" } : Jvm.MethodName) ∈ tb := tb_at 876 (by decide +kernel) rfl
theorem q877 : Cond.methodLink "PinEngines$Machine" (80 : Nat) ({ cls := "PinEngines$Engine", name := "copyFrom", desc := "(LPinEngines$Engine;)V" } : Jvm.MethodName) ∈ tb := tb_at 877 (by decide +kernel) rfl
theorem q878 : Cond.instanceMethod ({ cls := "PinEngines$Engine", name := "copyFrom", desc := "(LPinEngines$Engine;)V" } : Jvm.MethodName) ∈ tb := tb_at 878 (by decide +kernel) rfl
theorem q879 : Cond.selects "PinEngines$Engine" ({ cls := "PinEngines$Engine", name := "copyFrom", desc := "(LPinEngines$Engine;)V" } : Jvm.MethodName) ({ cls := "PinEngines$Engine", name := "copyFrom", desc := "(LPinEngines$Engine;)V" } : Jvm.MethodName) ∈ tb := tb_at 879 (by decide +kernel) rfl
theorem q880 : Cond.code ({ cls := "PinEngines$Engine", name := "copyFrom", desc := "(LPinEngines$Engine;)V" } : Jvm.MethodName) prog_3_method_4_code (2 : Nat) (Option.none : Option Jvm.ClassFile.FieldType) ∈ tb := tb_at 880 (by decide +kernel) rfl
theorem q881 : Cond.methodLink "PinEngines$Engine" (83 : Nat) ({ cls := "PinEngines$Queue", name := "copyFrom", desc := "(LPinEngines$Queue;)V" } : Jvm.MethodName) ∈ tb := tb_at 881 (by decide +kernel) rfl
theorem q882 : Cond.instanceMethod ({ cls := "PinEngines$Queue", name := "copyFrom", desc := "(LPinEngines$Queue;)V" } : Jvm.MethodName) ∈ tb := tb_at 882 (by decide +kernel) rfl
theorem q883 : Cond.selects "PinEngines$Queue" ({ cls := "PinEngines$Queue", name := "copyFrom", desc := "(LPinEngines$Queue;)V" } : Jvm.MethodName) ({ cls := "PinEngines$Queue", name := "copyFrom", desc := "(LPinEngines$Queue;)V" } : Jvm.MethodName) ∈ tb := tb_at 883 (by decide +kernel) rfl
theorem q884 : Cond.code ({ cls := "PinEngines$Queue", name := "copyFrom", desc := "(LPinEngines$Queue;)V" } : Jvm.MethodName) prog_9_method_3_code (2 : Nat) (Option.none : Option Jvm.ClassFile.FieldType) ∈ tb := tb_at 884 (by decide +kernel) rfl
theorem q885 : Cond.methodLink "PinEngines$Queue" (34 : Nat) ({ cls := "java/lang/System", name := "arraycopy", desc := "(Ljava/lang/Object;ILjava/lang/Object;II)V" } : Jvm.MethodName) ∈ tb := tb_at 885 (by decide +kernel) rfl
theorem q886 : Cond.methodLink "PinEngines$Engine" (87 : Nat) ({ cls := "java/lang/System", name := "arraycopy", desc := "(Ljava/lang/Object;ILjava/lang/Object;II)V" } : Jvm.MethodName) ∈ tb := tb_at 886 (by decide +kernel) rfl
theorem q887 : Cond.methodLink "PinEnginesLaw" (274 : Nat) ({ cls := "PinEngines", name := "saveSnapshot", desc := "()V" } : Jvm.MethodName) ∈ tb := tb_at 887 (by decide +kernel) rfl
theorem q888 : Cond.instanceMethod ({ cls := "PinEngines", name := "saveSnapshot", desc := "()V" } : Jvm.MethodName) ∈ tb := tb_at 888 (by decide +kernel) rfl
theorem q889 : Cond.selects "PinEngines" ({ cls := "PinEngines", name := "saveSnapshot", desc := "()V" } : Jvm.MethodName) ({ cls := "PinEngines", name := "saveSnapshot", desc := "()V" } : Jvm.MethodName) ∈ tb := tb_at 889 (by decide +kernel) rfl
theorem q890 : Cond.code ({ cls := "PinEngines", name := "saveSnapshot", desc := "()V" } : Jvm.MethodName) prog_1_method_44_code (1 : Nat) (Option.none : Option Jvm.ClassFile.FieldType) ∈ tb := tb_at 890 (by decide +kernel) rfl
theorem q891 : Cond.methodLink "PinEnginesLaw" (278 : Nat) ({ cls := "PinEngines", name := "restoreSnapshot", desc := "()Z" } : Jvm.MethodName) ∈ tb := tb_at 891 (by decide +kernel) rfl
theorem q892 : Cond.instanceMethod ({ cls := "PinEngines", name := "restoreSnapshot", desc := "()Z" } : Jvm.MethodName) ∈ tb := tb_at 892 (by decide +kernel) rfl
theorem q893 : Cond.selects "PinEngines" ({ cls := "PinEngines", name := "restoreSnapshot", desc := "()Z" } : Jvm.MethodName) ({ cls := "PinEngines", name := "restoreSnapshot", desc := "()Z" } : Jvm.MethodName) ∈ tb := tb_at 893 (by decide +kernel) rfl
theorem q894 : Cond.code ({ cls := "PinEngines", name := "restoreSnapshot", desc := "()Z" } : Jvm.MethodName) prog_1_method_45_code (1 : Nat) (Option.some Jvm.ClassFile.FieldType.boolean) ∈ tb := tb_at 894 (by decide +kernel) rfl
theorem q895 : Cond.methodLink "PinEnginesLaw" (132 : Nat) ({ cls := "PinEnginesLaw", name := "load", desc := "(LPinEngines;I[J)I" } : Jvm.MethodName) ∈ tb := tb_at 895 (by decide +kernel) rfl
theorem q896 : Cond.static ({ cls := "PinEnginesLaw", name := "load", desc := "(LPinEngines;I[J)I" } : Jvm.MethodName) ∈ tb := tb_at 896 (by decide +kernel) rfl
theorem q898 : Cond.classLink "PinEnginesLaw" (13 : Nat) "java/lang/IllegalArgumentException" ∈ tb := tb_at 898 (by decide +kernel) rfl
theorem q899 : Cond.methodLink "PinEnginesLaw" (7 : Nat) ({ cls := "PinEngines", name := "load", desc := "(I)I" } : Jvm.MethodName) ∈ tb := tb_at 899 (by decide +kernel) rfl
theorem q900 : Cond.instanceMethod ({ cls := "PinEngines", name := "load", desc := "(I)I" } : Jvm.MethodName) ∈ tb := tb_at 900 (by decide +kernel) rfl
theorem q901 : Cond.selects "PinEngines" ({ cls := "PinEngines", name := "load", desc := "(I)I" } : Jvm.MethodName) ({ cls := "PinEngines", name := "load", desc := "(I)I" } : Jvm.MethodName) ∈ tb := tb_at 901 (by decide +kernel) rfl
theorem q902 : Cond.code ({ cls := "PinEngines", name := "load", desc := "(I)I" } : Jvm.MethodName) prog_1_method_3_code (3 : Nat) (Option.some Jvm.ClassFile.FieldType.int) ∈ tb := tb_at 902 (by decide +kernel) rfl
theorem q903 : Cond.classLink "PinEngines" (108 : Nat) "java/lang/IllegalArgumentException" ∈ tb := tb_at 903 (by decide +kernel) rfl
theorem q904 : Cond.instantiable "java/lang/IllegalArgumentException" (6 : Nat) ∈ tb := tb_at 904 (by decide +kernel) rfl
theorem q912 : Cond.selects "java/lang/IllegalArgumentException" ({ cls := "java/lang/Throwable", name := "fillInStackTrace", desc := "(I)Ljava/lang/Throwable;" } : Jvm.MethodName) ({ cls := "java/lang/Throwable", name := "fillInStackTrace", desc := "(I)Ljava/lang/Throwable;" } : Jvm.MethodName) ∈ tb := tb_at 912 (by decide +kernel) rfl
theorem q913 : Cond.selects "java/lang/IllegalArgumentException" ({ cls := "java/lang/Throwable", name := "fillInStackTrace", desc := "()Ljava/lang/Throwable;" } : Jvm.MethodName) ({ cls := "java/lang/Throwable", name := "fillInStackTrace", desc := "()Ljava/lang/Throwable;" } : Jvm.MethodName) ∈ tb := tb_at 913 (by decide +kernel) rfl
theorem q914 : Cond.lays "java/lang/IllegalArgumentException" "java/lang/Throwable" "cause" "Ljava/lang/Throwable;" ∈ tb := tb_at 914 (by decide +kernel) rfl
theorem q915 : Cond.lays "java/lang/Throwable" "java/lang/Throwable" "cause" "Ljava/lang/Throwable;" ∈ tb := tb_at 915 (by decide +kernel) rfl
theorem q916 : Cond.lays "java/lang/IllegalArgumentException" "java/lang/Throwable" "stackTrace" "[Ljava/lang/StackTraceElement;" ∈ tb := tb_at 916 (by decide +kernel) rfl
theorem q917 : Cond.lays "java/lang/Throwable" "java/lang/Throwable" "stackTrace" "[Ljava/lang/StackTraceElement;" ∈ tb := tb_at 917 (by decide +kernel) rfl
theorem q918 : Cond.lays "java/lang/IllegalArgumentException" "java/lang/Throwable" "suppressedExceptions" "Ljava/util/List;" ∈ tb := tb_at 918 (by decide +kernel) rfl
theorem q919 : Cond.lays "java/lang/Throwable" "java/lang/Throwable" "suppressedExceptions" "Ljava/util/List;" ∈ tb := tb_at 919 (by decide +kernel) rfl
theorem q920 : Cond.lays "java/lang/IllegalArgumentException" "java/lang/Throwable" "detailMessage" "Ljava/lang/String;" ∈ tb := tb_at 920 (by decide +kernel) rfl
theorem q921 : Cond.lays "java/lang/Throwable" "java/lang/Throwable" "detailMessage" "Ljava/lang/String;" ∈ tb := tb_at 921 (by decide +kernel) rfl
theorem q922 : Cond.lays "java/lang/IllegalArgumentException" "java/lang/Throwable" "backtrace" "Ljava/lang/Object;" ∈ tb := tb_at 922 (by decide +kernel) rfl
theorem q923 : Cond.lays "java/lang/Throwable" "java/lang/Throwable" "backtrace" "Ljava/lang/Object;" ∈ tb := tb_at 923 (by decide +kernel) rfl
theorem q924 : Cond.fieldLink "java/lang/Throwable" (198 : Nat) "java/lang/Throwable" "backtrace" "Ljava/lang/Object;" ∈ tb := tb_at 924 (by decide +kernel) rfl
theorem q926 : Cond.instanceMethod ({ cls := "java/lang/Throwable", name := "<init>", desc := "()V" } : Jvm.MethodName) ∈ tb := tb_at 926 (by decide +kernel) rfl
theorem q927 : Cond.code ({ cls := "java/lang/Throwable", name := "<init>", desc := "()V" } : Jvm.MethodName) prog_34_method_1_code (1 : Nat) (Option.none : Option Jvm.ClassFile.FieldType) ∈ tb := tb_at 927 (by decide +kernel) rfl
theorem q928 : Cond.methodLink "java/lang/Throwable" (1 : Nat) ({ cls := "java/lang/Object", name := "<init>", desc := "()V" } : Jvm.MethodName) ∈ tb := tb_at 928 (by decide +kernel) rfl
theorem q929 : Cond.fieldLink "java/lang/Throwable" (13 : Nat) "java/lang/Throwable" "UNASSIGNED_STACK" "[Ljava/lang/StackTraceElement;" ∈ tb := tb_at 929 (by decide +kernel) rfl
theorem q931 : Cond.fieldLink "java/lang/Throwable" (20 : Nat) "java/lang/Throwable" "SUPPRESSED_SENTINEL" "Ljava/util/List;" ∈ tb := tb_at 931 (by decide +kernel) rfl
theorem q933 : Cond.methodLink "java/lang/Throwable" (27 : Nat) ({ cls := "java/lang/Throwable", name := "fillInStackTrace", desc := "()Ljava/lang/Throwable;" } : Jvm.MethodName) ∈ tb := tb_at 933 (by decide +kernel) rfl
theorem q934 : Cond.instanceMethod ({ cls := "java/lang/Throwable", name := "fillInStackTrace", desc := "()Ljava/lang/Throwable;" } : Jvm.MethodName) ∈ tb := tb_at 934 (by decide +kernel) rfl
theorem q936 : Cond.selects "java/util/NoSuchElementException" ({ cls := "java/lang/Throwable", name := "fillInStackTrace", desc := "()Ljava/lang/Throwable;" } : Jvm.MethodName) ({ cls := "java/lang/Throwable", name := "fillInStackTrace", desc := "()Ljava/lang/Throwable;" } : Jvm.MethodName) ∈ tb := tb_at 936 (by decide +kernel) rfl
theorem q938 : Cond.methodLink "java/lang/Throwable" (202 : Nat) ({ cls := "java/lang/Throwable", name := "fillInStackTrace", desc := "(I)Ljava/lang/Throwable;" } : Jvm.MethodName) ∈ tb := tb_at 938 (by decide +kernel) rfl
theorem q940 : Cond.instanceMethod ({ cls := "java/lang/Throwable", name := "fillInStackTrace", desc := "(I)Ljava/lang/Throwable;" } : Jvm.MethodName) ∈ tb := tb_at 940 (by decide +kernel) rfl
theorem q941 : Cond.instantiable "java/lang/Throwable" (6 : Nat) ∈ tb := tb_at 941 (by decide +kernel) rfl
theorem q942 : Cond.native ({ cls := "java/lang/Throwable", name := "fillInStackTrace", desc := "(I)Ljava/lang/Throwable;" } : Jvm.MethodName) ∈ tb := tb_at 942 (by decide +kernel) rfl
theorem q943 : Cond.methodLink "PinEngines" (110 : Nat) ({ cls := "java/lang/IllegalArgumentException", name := "<init>", desc := "()V" } : Jvm.MethodName) ∈ tb := tb_at 943 (by decide +kernel) rfl
theorem q944 : Cond.instanceMethod ({ cls := "java/lang/IllegalArgumentException", name := "<init>", desc := "()V" } : Jvm.MethodName) ∈ tb := tb_at 944 (by decide +kernel) rfl
theorem q945 : Cond.code ({ cls := "java/lang/IllegalArgumentException", name := "<init>", desc := "()V" } : Jvm.MethodName) prog_24_method_1_code (1 : Nat) (Option.none : Option Jvm.ClassFile.FieldType) ∈ tb := tb_at 945 (by decide +kernel) rfl
theorem q946 : Cond.methodLink "java/lang/IllegalArgumentException" (1 : Nat) ({ cls := "java/lang/RuntimeException", name := "<init>", desc := "()V" } : Jvm.MethodName) ∈ tb := tb_at 946 (by decide +kernel) rfl
theorem q947 : Cond.instanceMethod ({ cls := "java/lang/RuntimeException", name := "<init>", desc := "()V" } : Jvm.MethodName) ∈ tb := tb_at 947 (by decide +kernel) rfl
theorem q948 : Cond.code ({ cls := "java/lang/RuntimeException", name := "<init>", desc := "()V" } : Jvm.MethodName) prog_28_method_1_code (1 : Nat) (Option.none : Option Jvm.ClassFile.FieldType) ∈ tb := tb_at 948 (by decide +kernel) rfl
theorem q949 : Cond.methodLink "java/lang/RuntimeException" (1 : Nat) ({ cls := "java/lang/Exception", name := "<init>", desc := "()V" } : Jvm.MethodName) ∈ tb := tb_at 949 (by decide +kernel) rfl
theorem q950 : Cond.instanceMethod ({ cls := "java/lang/Exception", name := "<init>", desc := "()V" } : Jvm.MethodName) ∈ tb := tb_at 950 (by decide +kernel) rfl
theorem q951 : Cond.code ({ cls := "java/lang/Exception", name := "<init>", desc := "()V" } : Jvm.MethodName) prog_23_method_1_code (1 : Nat) (Option.none : Option Jvm.ClassFile.FieldType) ∈ tb := tb_at 951 (by decide +kernel) rfl
theorem q952 : Cond.methodLink "java/lang/Exception" (1 : Nat) ({ cls := "java/lang/Throwable", name := "<init>", desc := "()V" } : Jvm.MethodName) ∈ tb := tb_at 952 (by decide +kernel) rfl
theorem q953 : Cond.fieldLink "java/lang/Throwable" (198 : Nat) "java/lang/Throwable" "backtrace" "Ljava/lang/Object;" ∈ tb := tb_at 953 (by decide +kernel) rfl
theorem q954 : Cond.fieldLink "java/lang/Throwable" (31 : Nat) "java/lang/Throwable" "detailMessage" "Ljava/lang/String;" ∈ tb := tb_at 954 (by decide +kernel) rfl
theorem q955 : Cond.fieldLink "java/lang/Throwable" (7 : Nat) "java/lang/Throwable" "cause" "Ljava/lang/Throwable;" ∈ tb := tb_at 955 (by decide +kernel) rfl
theorem q956 : Cond.fieldLink "java/lang/Throwable" (17 : Nat) "java/lang/Throwable" "stackTrace" "[Ljava/lang/StackTraceElement;" ∈ tb := tb_at 956 (by decide +kernel) rfl
theorem q957 : Cond.fieldLink "java/lang/Throwable" (24 : Nat) "java/lang/Throwable" "suppressedExceptions" "Ljava/util/List;" ∈ tb := tb_at 957 (by decide +kernel) rfl
theorem q962 : Cond.lays "java/lang/IllegalArgumentException" "java/lang/Throwable" "depth" "I" ∈ tb := tb_at 962 (by decide +kernel) rfl
theorem q966 : Cond.methodLink "PinEngines" (111 : Nat) ({ cls := "PinEngines$Tokens", name := "scan", desc := "(I)V" } : Jvm.MethodName) ∈ tb := tb_at 966 (by decide +kernel) rfl
theorem q967 : Cond.instanceMethod ({ cls := "PinEngines$Tokens", name := "scan", desc := "(I)V" } : Jvm.MethodName) ∈ tb := tb_at 967 (by decide +kernel) rfl
theorem q968 : Cond.selects "PinEngines$Tokens" ({ cls := "PinEngines$Tokens", name := "scan", desc := "(I)V" } : Jvm.MethodName) ({ cls := "PinEngines$Tokens", name := "scan", desc := "(I)V" } : Jvm.MethodName) ∈ tb := tb_at 968 (by decide +kernel) rfl
theorem q969 : Cond.code ({ cls := "PinEngines$Tokens", name := "scan", desc := "(I)V" } : Jvm.MethodName) prog_13_method_2_code (5 : Nat) (Option.none : Option Jvm.ClassFile.FieldType) ∈ tb := tb_at 969 (by decide +kernel) rfl
theorem q970 : Cond.methodLink "PinEngines$Tokens" (48 : Nat) ({ cls := "java/lang/Math", name := "min", desc := "(II)I" } : Jvm.MethodName) ∈ tb := tb_at 970 (by decide +kernel) rfl
theorem q971 : Cond.methodLink "PinEngines$Tokens" (54 : Nat) ({ cls := "PinEngines$Tokens", name := "scanToken", desc := "(II)I" } : Jvm.MethodName) ∈ tb := tb_at 971 (by decide +kernel) rfl
theorem q973 : Cond.instanceMethod ({ cls := "PinEngines$Tokens", name := "scanToken", desc := "(II)I" } : Jvm.MethodName) ∈ tb := tb_at 973 (by decide +kernel) rfl
theorem q974 : Cond.code ({ cls := "PinEngines$Tokens", name := "scanToken", desc := "(II)I" } : Jvm.MethodName) prog_13_method_16_code (6 : Nat) (Option.some Jvm.ClassFile.FieldType.int) ∈ tb := tb_at 974 (by decide +kernel) rfl
theorem q975 : Cond.fieldLink "PinEngines$Tokens" (63 : Nat) "PinEngines$Symbol" "NUMBER" "LPinEngines$Symbol;" ∈ tb := tb_at 975 (by decide +kernel) rfl
theorem q977 : Cond.methodLink "PinEngines$Tokens" (88 : Nat) ({ cls := "PinEngines$Tokens", name := "isDigit", desc := "(B)Z" } : Jvm.MethodName) ∈ tb := tb_at 977 (by decide +kernel) rfl
theorem q978 : Cond.static ({ cls := "PinEngines$Tokens", name := "isDigit", desc := "(B)Z" } : Jvm.MethodName) ∈ tb := tb_at 978 (by decide +kernel) rfl
theorem q979 : Cond.code ({ cls := "PinEngines$Tokens", name := "isDigit", desc := "(B)Z" } : Jvm.MethodName) prog_13_method_18_code (1 : Nat) (Option.some Jvm.ClassFile.FieldType.boolean) ∈ tb := tb_at 979 (by decide +kernel) rfl
theorem q980 : Cond.constant "PinEngines$Tokens" (92 : Nat) (100000 : Int32) ∈ tb := tb_at 980 (by decide +kernel) rfl
theorem q981 : Cond.methodLink "PinEngines$Tokens" (93 : Nat) ({ cls := "PinEngines$Tokens", name := "isLetter", desc := "(B)Z" } : Jvm.MethodName) ∈ tb := tb_at 981 (by decide +kernel) rfl
theorem q982 : Cond.static ({ cls := "PinEngines$Tokens", name := "isLetter", desc := "(B)Z" } : Jvm.MethodName) ∈ tb := tb_at 982 (by decide +kernel) rfl
theorem q983 : Cond.code ({ cls := "PinEngines$Tokens", name := "isLetter", desc := "(B)Z" } : Jvm.MethodName) prog_13_method_17_code (1 : Nat) (Option.some Jvm.ClassFile.FieldType.boolean) ∈ tb := tb_at 983 (by decide +kernel) rfl
theorem q984 : Cond.fieldLink "PinEngines$Tokens" (96 : Nat) "PinEngines$Symbol" "NAME" "LPinEngines$Symbol;" ∈ tb := tb_at 984 (by decide +kernel) rfl
theorem q986 : Cond.methodLink "PinEngines$Tokens" (99 : Nat) ({ cls := "PinEngines$Symbol", name := "spelled", desc := "([BIILPinEngines$Symbol;)LPinEngines$Symbol;" } : Jvm.MethodName) ∈ tb := tb_at 986 (by decide +kernel) rfl
theorem q987 : Cond.static ({ cls := "PinEngines$Symbol", name := "spelled", desc := "([BIILPinEngines$Symbol;)LPinEngines$Symbol;" } : Jvm.MethodName) ∈ tb := tb_at 987 (by decide +kernel) rfl
theorem q988 : Cond.code ({ cls := "PinEngines$Symbol", name := "spelled", desc := "([BIILPinEngines$Symbol;)LPinEngines$Symbol;" } : Jvm.MethodName) prog_12_method_4_code (5 : Nat) (Option.some (Jvm.ClassFile.FieldType.object "PinEngines$Symbol")) ∈ tb := tb_at 988 (by decide +kernel) rfl
theorem q989 : Cond.fieldLink "PinEngines$Symbol" (255 : Nat) "PinEngines$Symbol" "ALL" "[LPinEngines$Symbol;" ∈ tb := tb_at 989 (by decide +kernel) rfl
theorem q991 : Cond.methodLink "PinEngines$Symbol" (258 : Nat) ({ cls := "PinEngines$Symbol", name := "isSpelled", desc := "([BII)Z" } : Jvm.MethodName) ∈ tb := tb_at 991 (by decide +kernel) rfl
theorem q993 : Cond.instanceMethod ({ cls := "PinEngines$Symbol", name := "isSpelled", desc := "([BII)Z" } : Jvm.MethodName) ∈ tb := tb_at 993 (by decide +kernel) rfl
theorem q994 : Cond.instantiable "PinEngines$Symbol" (5 : Nat) ∈ tb := tb_at 994 (by decide +kernel) rfl
theorem q995 : Cond.code ({ cls := "PinEngines$Symbol", name := "isSpelled", desc := "([BII)Z" } : Jvm.MethodName) prog_12_method_5_code (5 : Nat) (Option.some Jvm.ClassFile.FieldType.boolean) ∈ tb := tb_at 995 (by decide +kernel) rfl
theorem q996 : Cond.methodLink "PinEngines$Symbol" (262 : Nat) ({ cls := "java/lang/String", name := "length", desc := "()I" } : Jvm.MethodName) ∈ tb := tb_at 996 (by decide +kernel) rfl
theorem q997 : Cond.instanceMethod ({ cls := "java/lang/String", name := "length", desc := "()I" } : Jvm.MethodName) ∈ tb := tb_at 997 (by decide +kernel) rfl
theorem q998 : Cond.selects "java/lang/String" ({ cls := "java/lang/String", name := "length", desc := "()I" } : Jvm.MethodName) ({ cls := "java/lang/String", name := "length", desc := "()I" } : Jvm.MethodName) ∈ tb := tb_at 998 (by decide +kernel) rfl
theorem q999 : Cond.code ({ cls := "java/lang/String", name := "length", desc := "()I" } : Jvm.MethodName) prog_29_method_54_code (1 : Nat) (Option.some Jvm.ClassFile.FieldType.int) ∈ tb := tb_at 999 (by decide +kernel) rfl
theorem q1000 : Cond.methodLink "java/lang/String" (335 : Nat) ({ cls := "java/lang/String", name := "coder", desc := "()B" } : Jvm.MethodName) ∈ tb := tb_at 1000 (by decide +kernel) rfl
theorem q1001 : Cond.instanceMethod ({ cls := "java/lang/String", name := "coder", desc := "()B" } : Jvm.MethodName) ∈ tb := tb_at 1001 (by decide +kernel) rfl
theorem q1002 : Cond.selects "java/lang/String" ({ cls := "java/lang/String", name := "coder", desc := "()B" } : Jvm.MethodName) ({ cls := "java/lang/String", name := "coder", desc := "()B" } : Jvm.MethodName) ∈ tb := tb_at 1002 (by decide +kernel) rfl
theorem q1003 : Cond.code ({ cls := "java/lang/String", name := "coder", desc := "()B" } : Jvm.MethodName) prog_29_method_152_code (1 : Nat) (Option.some Jvm.ClassFile.FieldType.byte) ∈ tb := tb_at 1003 (by decide +kernel) rfl
theorem q1004 : Cond.fieldLink "java/lang/String" (38 : Nat) "java/lang/String" "COMPACT_STRINGS" "Z" ∈ tb := tb_at 1004 (by decide +kernel) rfl
theorem q1005 : Cond.methodLink "PinEngines$Symbol" (268 : Nat) ({ cls := "java/lang/String", name := "charAt", desc := "(I)C" } : Jvm.MethodName) ∈ tb := tb_at 1005 (by decide +kernel) rfl
theorem q1006 : Cond.instanceMethod ({ cls := "java/lang/String", name := "charAt", desc := "(I)C" } : Jvm.MethodName) ∈ tb := tb_at 1006 (by decide +kernel) rfl
theorem q1007 : Cond.selects "java/lang/String" ({ cls := "java/lang/String", name := "charAt", desc := "(I)C" } : Jvm.MethodName) ({ cls := "java/lang/String", name := "charAt", desc := "(I)C" } : Jvm.MethodName) ∈ tb := tb_at 1007 (by decide +kernel) rfl
theorem q1008 : Cond.code ({ cls := "java/lang/String", name := "charAt", desc := "(I)C" } : Jvm.MethodName) prog_29_method_56_code (2 : Nat) (Option.some Jvm.ClassFile.FieldType.char) ∈ tb := tb_at 1008 (by decide +kernel) rfl
theorem q1009 : Cond.methodLink "java/lang/String" (492 : Nat) ({ cls := "java/lang/String", name := "isLatin1", desc := "()Z" } : Jvm.MethodName) ∈ tb := tb_at 1009 (by decide +kernel) rfl
theorem q1010 : Cond.instanceMethod ({ cls := "java/lang/String", name := "isLatin1", desc := "()Z" } : Jvm.MethodName) ∈ tb := tb_at 1010 (by decide +kernel) rfl
theorem q1011 : Cond.selects "java/lang/String" ({ cls := "java/lang/String", name := "isLatin1", desc := "()Z" } : Jvm.MethodName) ({ cls := "java/lang/String", name := "isLatin1", desc := "()Z" } : Jvm.MethodName) ∈ tb := tb_at 1011 (by decide +kernel) rfl
theorem q1012 : Cond.code ({ cls := "java/lang/String", name := "isLatin1", desc := "()Z" } : Jvm.MethodName) prog_29_method_154_code (1 : Nat) (Option.some Jvm.ClassFile.FieldType.boolean) ∈ tb := tb_at 1012 (by decide +kernel) rfl
theorem q1013 : Cond.methodLink "java/lang/String" (495 : Nat) ({ cls := "java/lang/StringLatin1", name := "charAt", desc := "([BI)C" } : Jvm.MethodName) ∈ tb := tb_at 1013 (by decide +kernel) rfl
theorem q1014 : Cond.static ({ cls := "java/lang/StringLatin1", name := "charAt", desc := "([BI)C" } : Jvm.MethodName) ∈ tb := tb_at 1014 (by decide +kernel) rfl
theorem q1015 : Cond.code ({ cls := "java/lang/StringLatin1", name := "charAt", desc := "([BI)C" } : Jvm.MethodName) prog_31_method_2_code (2 : Nat) (Option.some Jvm.ClassFile.FieldType.char) ∈ tb := tb_at 1015 (by decide +kernel) rfl
theorem q1016 : Cond.methodLink "java/lang/StringLatin1" (9 : Nat) ({ cls := "java/lang/String", name := "checkIndex", desc := "(II)V" } : Jvm.MethodName) ∈ tb := tb_at 1016 (by decide +kernel) rfl
theorem q1017 : Cond.methodLink "java/lang/String" (498 : Nat) ({ cls := "java/lang/StringUTF16", name := "charAt", desc := "([BI)C" } : Jvm.MethodName) ∈ tb := tb_at 1017 (by decide +kernel) rfl
theorem q1018 : Cond.static ({ cls := "java/lang/StringUTF16", name := "charAt", desc := "([BI)C" } : Jvm.MethodName) ∈ tb := tb_at 1018 (by decide +kernel) rfl
theorem q1019 : Cond.code ({ cls := "java/lang/StringUTF16", name := "charAt", desc := "([BI)C" } : Jvm.MethodName) prog_32_method_83_code (2 : Nat) (Option.some Jvm.ClassFile.FieldType.char) ∈ tb := tb_at 1019 (by decide +kernel) rfl
theorem q1020 : Cond.methodLink "java/lang/StringUTF16" (67 : Nat) ({ cls := "java/lang/StringUTF16", name := "checkIndex", desc := "(I[B)V" } : Jvm.MethodName) ∈ tb := tb_at 1020 (by decide +kernel) rfl
theorem q1021 : Cond.static ({ cls := "java/lang/StringUTF16", name := "checkIndex", desc := "(I[B)V" } : Jvm.MethodName) ∈ tb := tb_at 1021 (by decide +kernel) rfl
theorem q1022 : Cond.code ({ cls := "java/lang/StringUTF16", name := "checkIndex", desc := "(I[B)V" } : Jvm.MethodName) prog_32_method_91_code (2 : Nat) (Option.none : Option Jvm.ClassFile.FieldType) ∈ tb := tb_at 1022 (by decide +kernel) rfl
theorem q1023 : Cond.methodLink "java/lang/StringUTF16" (414 : Nat) ({ cls := "java/lang/String", name := "checkIndex", desc := "(II)V" } : Jvm.MethodName) ∈ tb := tb_at 1023 (by decide +kernel) rfl
theorem q1024 : Cond.methodLink "java/lang/StringUTF16" (71 : Nat) ({ cls := "java/lang/StringUTF16", name := "getChar", desc := "([BI)C" } : Jvm.MethodName) ∈ tb := tb_at 1024 (by decide +kernel) rfl
theorem q1025 : Cond.fieldLink "PinEngines$Tokens" (103 : Nat) "PinEngines$Symbol" "STRANGE" "LPinEngines$Symbol;" ∈ tb := tb_at 1025 (by decide +kernel) rfl
theorem q1027 : Cond.methodLink "PinEngines$Tokens" (57 : Nat) ({ cls := "PinEngines$Tokens", name := "rewind", desc := "()V" } : Jvm.MethodName) ∈ tb := tb_at 1027 (by decide +kernel) rfl
theorem q1028 : Cond.instanceMethod ({ cls := "PinEngines$Tokens", name := "rewind", desc := "()V" } : Jvm.MethodName) ∈ tb := tb_at 1028 (by decide +kernel) rfl
theorem q1029 : Cond.selects "PinEngines$Tokens" ({ cls := "PinEngines$Tokens", name := "rewind", desc := "()V" } : Jvm.MethodName) ({ cls := "PinEngines$Tokens", name := "rewind", desc := "()V" } : Jvm.MethodName) ∈ tb := tb_at 1029 (by decide +kernel) rfl
theorem q1030 : Cond.code ({ cls := "PinEngines$Tokens", name := "rewind", desc := "()V" } : Jvm.MethodName) prog_13_method_3_code (1 : Nat) (Option.none : Option Jvm.ClassFile.FieldType) ∈ tb := tb_at 1030 (by decide +kernel) rfl
theorem q1031 : Cond.methodLink "PinEngines" (114 : Nat) ({ cls := "PinEngines$ProgramReader", name := "readProgram", desc := "(LPinEngines$Program;)V" } : Jvm.MethodName) ∈ tb := tb_at 1031 (by decide +kernel) rfl
theorem q1032 : Cond.instanceMethod ({ cls := "PinEngines$ProgramReader", name := "readProgram", desc := "(LPinEngines$Program;)V" } : Jvm.MethodName) ∈ tb := tb_at 1032 (by decide +kernel) rfl
theorem q1033 : Cond.selects "PinEngines$ProgramReader" ({ cls := "PinEngines$ProgramReader", name := "readProgram", desc := "(LPinEngines$Program;)V" } : Jvm.MethodName) ({ cls := "PinEngines$ProgramReader", name := "readProgram", desc := "(LPinEngines$Program;)V" } : Jvm.MethodName) ∈ tb := tb_at 1033 (by decide +kernel) rfl
theorem q1034 : Cond.code ({ cls := "PinEngines$ProgramReader", name := "readProgram", desc := "(LPinEngines$Program;)V" } : Jvm.MethodName) prog_7_method_2_code (2 : Nat) (Option.none : Option Jvm.ClassFile.FieldType) ∈ tb := tb_at 1034 (by decide +kernel) rfl
theorem q1035 : Cond.methodLink "PinEngines$ProgramReader" (34 : Nat) ({ cls := "PinEngines$ProgramReader", name := "readClauses", desc := "()V" } : Jvm.MethodName) ∈ tb := tb_at 1035 (by decide +kernel) rfl
theorem q1037 : Cond.instanceMethod ({ cls := "PinEngines$ProgramReader", name := "readClauses", desc := "()V" } : Jvm.MethodName) ∈ tb := tb_at 1037 (by decide +kernel) rfl
theorem q1038 : Cond.code ({ cls := "PinEngines$ProgramReader", name := "readClauses", desc := "()V" } : Jvm.MethodName) prog_7_method_3_code (2 : Nat) (Option.none : Option Jvm.ClassFile.FieldType) ∈ tb := tb_at 1038 (by decide +kernel) rfl
theorem q1039 : Cond.methodLink "PinEngines$ProgramReader" (42 : Nat) ({ cls := "PinEngines$Program", name := "clear", desc := "()V" } : Jvm.MethodName) ∈ tb := tb_at 1039 (by decide +kernel) rfl
theorem q1040 : Cond.instanceMethod ({ cls := "PinEngines$Program", name := "clear", desc := "()V" } : Jvm.MethodName) ∈ tb := tb_at 1040 (by decide +kernel) rfl
theorem q1041 : Cond.selects "PinEngines$Program" ({ cls := "PinEngines$Program", name := "clear", desc := "()V" } : Jvm.MethodName) ({ cls := "PinEngines$Program", name := "clear", desc := "()V" } : Jvm.MethodName) ∈ tb := tb_at 1041 (by decide +kernel) rfl
theorem q1042 : Cond.code ({ cls := "PinEngines$Program", name := "clear", desc := "()V" } : Jvm.MethodName) prog_6_method_2_code (2 : Nat) (Option.none : Option Jvm.ClassFile.FieldType) ∈ tb := tb_at 1042 (by decide +kernel) rfl
theorem q1043 : Cond.methodLink "PinEngines$Program" (36 : Nat) ({ cls := "PinEngines$Setup", name := "clear", desc := "()V" } : Jvm.MethodName) ∈ tb := tb_at 1043 (by decide +kernel) rfl
theorem q1044 : Cond.methodLink "PinEngines$ProgramReader" (47 : Nat) ({ cls := "PinEngines$Tokens", name := "rewind", desc := "()V" } : Jvm.MethodName) ∈ tb := tb_at 1044 (by decide +kernel) rfl
theorem q1045 : Cond.fieldLink "PinEngines$ProgramReader" (50 : Nat) "PinEngines$Symbol" "END" "LPinEngines$Symbol;" ∈ tb := tb_at 1045 (by decide +kernel) rfl
theorem q1046 : Cond.methodLink "PinEngines$ProgramReader" (56 : Nat) ({ cls := "PinEngines$Tokens", name := "at", desc := "(LPinEngines$Symbol;)Z" } : Jvm.MethodName) ∈ tb := tb_at 1046 (by decide +kernel) rfl
theorem q1047 : Cond.instanceMethod ({ cls := "PinEngines$Tokens", name := "at", desc := "(LPinEngines$Symbol;)Z" } : Jvm.MethodName) ∈ tb := tb_at 1047 (by decide +kernel) rfl
theorem q1048 : Cond.selects "PinEngines$Tokens" ({ cls := "PinEngines$Tokens", name := "at", desc := "(LPinEngines$Symbol;)Z" } : Jvm.MethodName) ({ cls := "PinEngines$Tokens", name := "at", desc := "(LPinEngines$Symbol;)Z" } : Jvm.MethodName) ∈ tb := tb_at 1048 (by decide +kernel) rfl
theorem q1049 : Cond.code ({ cls := "PinEngines$Tokens", name := "at", desc := "(LPinEngines$Symbol;)Z" } : Jvm.MethodName) prog_13_method_5_code (2 : Nat) (Option.some Jvm.ClassFile.FieldType.boolean) ∈ tb := tb_at 1049 (by decide +kernel) rfl
theorem q1050 : Cond.fieldLink "PinEngines$ProgramReader" (60 : Nat) "PinEngines$Symbol" "ENGINE" "LPinEngines$Symbol;" ∈ tb := tb_at 1050 (by decide +kernel) rfl
theorem q1052 : Cond.methodLink "PinEngines$ProgramReader" (63 : Nat) ({ cls := "PinEngines$Tokens", name := "skip", desc := "(LPinEngines$Symbol;)Z" } : Jvm.MethodName) ∈ tb := tb_at 1052 (by decide +kernel) rfl
theorem q1053 : Cond.instanceMethod ({ cls := "PinEngines$Tokens", name := "skip", desc := "(LPinEngines$Symbol;)Z" } : Jvm.MethodName) ∈ tb := tb_at 1053 (by decide +kernel) rfl
theorem q1054 : Cond.selects "PinEngines$Tokens" ({ cls := "PinEngines$Tokens", name := "skip", desc := "(LPinEngines$Symbol;)Z" } : Jvm.MethodName) ({ cls := "PinEngines$Tokens", name := "skip", desc := "(LPinEngines$Symbol;)Z" } : Jvm.MethodName) ∈ tb := tb_at 1054 (by decide +kernel) rfl
theorem q1055 : Cond.code ({ cls := "PinEngines$Tokens", name := "skip", desc := "(LPinEngines$Symbol;)Z" } : Jvm.MethodName) prog_13_method_9_code (2 : Nat) (Option.some Jvm.ClassFile.FieldType.boolean) ∈ tb := tb_at 1055 (by decide +kernel) rfl
theorem q1056 : Cond.methodLink "PinEngines$Tokens" (66 : Nat) ({ cls := "PinEngines$Tokens", name := "at", desc := "(LPinEngines$Symbol;)Z" } : Jvm.MethodName) ∈ tb := tb_at 1056 (by decide +kernel) rfl
theorem q1057 : Cond.methodLink "PinEngines$ProgramReader" (66 : Nat) ({ cls := "PinEngines$ProgramReader", name := "readEngine", desc := "()V" } : Jvm.MethodName) ∈ tb := tb_at 1057 (by decide +kernel) rfl
theorem q1059 : Cond.instanceMethod ({ cls := "PinEngines$ProgramReader", name := "readEngine", desc := "()V" } : Jvm.MethodName) ∈ tb := tb_at 1059 (by decide +kernel) rfl
theorem q1060 : Cond.code ({ cls := "PinEngines$ProgramReader", name := "readEngine", desc := "()V" } : Jvm.MethodName) prog_7_method_4_code (3 : Nat) (Option.none : Option Jvm.ClassFile.FieldType) ∈ tb := tb_at 1060 (by decide +kernel) rfl
theorem q1061 : Cond.methodLink "PinEngines$ProgramReader" (88 : Nat) ({ cls := "PinEngines$Tokens", name := "atNumberBelow", desc := "(I)Z" } : Jvm.MethodName) ∈ tb := tb_at 1061 (by decide +kernel) rfl
theorem q1062 : Cond.instanceMethod ({ cls := "PinEngines$Tokens", name := "atNumberBelow", desc := "(I)Z" } : Jvm.MethodName) ∈ tb := tb_at 1062 (by decide +kernel) rfl
theorem q1063 : Cond.selects "PinEngines$Tokens" ({ cls := "PinEngines$Tokens", name := "atNumberBelow", desc := "(I)Z" } : Jvm.MethodName) ({ cls := "PinEngines$Tokens", name := "atNumberBelow", desc := "(I)Z" } : Jvm.MethodName) ∈ tb := tb_at 1063 (by decide +kernel) rfl
theorem q1064 : Cond.code ({ cls := "PinEngines$Tokens", name := "atNumberBelow", desc := "(I)Z" } : Jvm.MethodName) prog_13_method_7_code (2 : Nat) (Option.some Jvm.ClassFile.FieldType.boolean) ∈ tb := tb_at 1064 (by decide +kernel) rfl
theorem q1065 : Cond.methodLink "PinEngines$ProgramReader" (92 : Nat) ({ cls := "PinEngines$Tokens", name := "number", desc := "()I" } : Jvm.MethodName) ∈ tb := tb_at 1065 (by decide +kernel) rfl
theorem q1066 : Cond.instanceMethod ({ cls := "PinEngines$Tokens", name := "number", desc := "()I" } : Jvm.MethodName) ∈ tb := tb_at 1066 (by decide +kernel) rfl
theorem q1067 : Cond.selects "PinEngines$Tokens" ({ cls := "PinEngines$Tokens", name := "number", desc := "()I" } : Jvm.MethodName) ({ cls := "PinEngines$Tokens", name := "number", desc := "()I" } : Jvm.MethodName) ∈ tb := tb_at 1067 (by decide +kernel) rfl
theorem q1068 : Cond.code ({ cls := "PinEngines$Tokens", name := "number", desc := "()I" } : Jvm.MethodName) prog_13_method_8_code (1 : Nat) (Option.some Jvm.ClassFile.FieldType.int) ∈ tb := tb_at 1068 (by decide +kernel) rfl
theorem q1069 : Cond.methodLink "PinEngines$ProgramReader" (96 : Nat) ({ cls := "PinEngines$Program", name := "hasEngine", desc := "(I)Z" } : Jvm.MethodName) ∈ tb := tb_at 1069 (by decide +kernel) rfl
theorem q1070 : Cond.instanceMethod ({ cls := "PinEngines$Program", name := "hasEngine", desc := "(I)Z" } : Jvm.MethodName) ∈ tb := tb_at 1070 (by decide +kernel) rfl
theorem q1071 : Cond.selects "PinEngines$Program" ({ cls := "PinEngines$Program", name := "hasEngine", desc := "(I)Z" } : Jvm.MethodName) ({ cls := "PinEngines$Program", name := "hasEngine", desc := "(I)Z" } : Jvm.MethodName) ∈ tb := tb_at 1071 (by decide +kernel) rfl
theorem q1072 : Cond.code ({ cls := "PinEngines$Program", name := "hasEngine", desc := "(I)Z" } : Jvm.MethodName) prog_6_method_6_code (2 : Nat) (Option.some Jvm.ClassFile.FieldType.boolean) ∈ tb := tb_at 1072 (by decide +kernel) rfl
theorem q1073 : Cond.methodLink "PinEngines$ProgramReader" (99 : Nat) ({ cls := "PinEngines$Tokens", name := "fail", desc := "(I)V" } : Jvm.MethodName) ∈ tb := tb_at 1073 (by decide +kernel) rfl
theorem q1074 : Cond.instanceMethod ({ cls := "PinEngines$Tokens", name := "fail", desc := "(I)V" } : Jvm.MethodName) ∈ tb := tb_at 1074 (by decide +kernel) rfl
theorem q1075 : Cond.selects "PinEngines$Tokens" ({ cls := "PinEngines$Tokens", name := "fail", desc := "(I)V" } : Jvm.MethodName) ({ cls := "PinEngines$Tokens", name := "fail", desc := "(I)V" } : Jvm.MethodName) ∈ tb := tb_at 1075 (by decide +kernel) rfl
theorem q1076 : Cond.code ({ cls := "PinEngines$Tokens", name := "fail", desc := "(I)V" } : Jvm.MethodName) prog_13_method_4_code (2 : Nat) (Option.none : Option Jvm.ClassFile.FieldType) ∈ tb := tb_at 1076 (by decide +kernel) rfl
theorem q1077 : Cond.methodLink "PinEngines$ProgramReader" (107 : Nat) ({ cls := "PinEngines$Tokens", name := "takeNumber", desc := "(II)I" } : Jvm.MethodName) ∈ tb := tb_at 1077 (by decide +kernel) rfl
theorem q1078 : Cond.instanceMethod ({ cls := "PinEngines$Tokens", name := "takeNumber", desc := "(II)I" } : Jvm.MethodName) ∈ tb := tb_at 1078 (by decide +kernel) rfl
theorem q1079 : Cond.selects "PinEngines$Tokens" ({ cls := "PinEngines$Tokens", name := "takeNumber", desc := "(II)I" } : Jvm.MethodName) ({ cls := "PinEngines$Tokens", name := "takeNumber", desc := "(II)I" } : Jvm.MethodName) ∈ tb := tb_at 1079 (by decide +kernel) rfl
theorem q1080 : Cond.code ({ cls := "PinEngines$Tokens", name := "takeNumber", desc := "(II)I" } : Jvm.MethodName) prog_13_method_14_code (4 : Nat) (Option.some Jvm.ClassFile.FieldType.int) ∈ tb := tb_at 1080 (by decide +kernel) rfl
theorem q1081 : Cond.methodLink "PinEngines$Tokens" (73 : Nat) ({ cls := "PinEngines$Tokens", name := "fail", desc := "(I)V" } : Jvm.MethodName) ∈ tb := tb_at 1081 (by decide +kernel) rfl
theorem q1082 : Cond.methodLink "PinEngines$Tokens" (70 : Nat) ({ cls := "PinEngines$Tokens", name := "skip", desc := "(LPinEngines$Symbol;)Z" } : Jvm.MethodName) ∈ tb := tb_at 1082 (by decide +kernel) rfl
theorem q1083 : Cond.fieldLink "PinEngines$ProgramReader" (116 : Nat) "PinEngines$Symbol" "START" "LPinEngines$Symbol;" ∈ tb := tb_at 1083 (by decide +kernel) rfl
theorem q1085 : Cond.methodLink "PinEngines$ProgramReader" (84 : Nat) ({ cls := "PinEngines$Tokens", name := "expect", desc := "(LPinEngines$Symbol;)V" } : Jvm.MethodName) ∈ tb := tb_at 1085 (by decide +kernel) rfl
theorem q1086 : Cond.instanceMethod ({ cls := "PinEngines$Tokens", name := "expect", desc := "(LPinEngines$Symbol;)V" } : Jvm.MethodName) ∈ tb := tb_at 1086 (by decide +kernel) rfl
theorem q1087 : Cond.selects "PinEngines$Tokens" ({ cls := "PinEngines$Tokens", name := "expect", desc := "(LPinEngines$Symbol;)V" } : Jvm.MethodName) ({ cls := "PinEngines$Tokens", name := "expect", desc := "(LPinEngines$Symbol;)V" } : Jvm.MethodName) ∈ tb := tb_at 1087 (by decide +kernel) rfl
theorem q1088 : Cond.code ({ cls := "PinEngines$Tokens", name := "expect", desc := "(LPinEngines$Symbol;)V" } : Jvm.MethodName) prog_13_method_10_code (2 : Nat) (Option.none : Option Jvm.ClassFile.FieldType) ∈ tb := tb_at 1088 (by decide +kernel) rfl
theorem q1089 : Cond.methodLink "PinEngines$ProgramReader" (119 : Nat) ({ cls := "PinEngines$ProgramReader", name := "takeName", desc := "()I" } : Jvm.MethodName) ∈ tb := tb_at 1089 (by decide +kernel) rfl
theorem q1091 : Cond.instanceMethod ({ cls := "PinEngines$ProgramReader", name := "takeName", desc := "()I" } : Jvm.MethodName) ∈ tb := tb_at 1091 (by decide +kernel) rfl
theorem q1092 : Cond.code ({ cls := "PinEngines$ProgramReader", name := "takeName", desc := "()I" } : Jvm.MethodName) prog_7_method_18_code (2 : Nat) (Option.some Jvm.ClassFile.FieldType.int) ∈ tb := tb_at 1092 (by decide +kernel) rfl
theorem q1093 : Cond.fieldLink "PinEngines$ProgramReader" (210 : Nat) "PinEngines$Symbol" "NAME" "LPinEngines$Symbol;" ∈ tb := tb_at 1093 (by decide +kernel) rfl
theorem q1094 : Cond.methodLink "PinEngines$ProgramReader" (219 : Nat) ({ cls := "PinEngines$ProgramReader", name := "labelAddress", desc := "()I" } : Jvm.MethodName) ∈ tb := tb_at 1094 (by decide +kernel) rfl
theorem q1096 : Cond.instanceMethod ({ cls := "PinEngines$ProgramReader", name := "labelAddress", desc := "()I" } : Jvm.MethodName) ∈ tb := tb_at 1096 (by decide +kernel) rfl
theorem q1097 : Cond.code ({ cls := "PinEngines$ProgramReader", name := "labelAddress", desc := "()I" } : Jvm.MethodName) prog_7_method_10_code (2 : Nat) (Option.some Jvm.ClassFile.FieldType.int) ∈ tb := tb_at 1097 (by decide +kernel) rfl
theorem q1098 : Cond.methodLink "PinEngines$ProgramReader" (228 : Nat) ({ cls := "PinEngines$Tokens", name := "isSameAs", desc := "(I)Z" } : Jvm.MethodName) ∈ tb := tb_at 1098 (by decide +kernel) rfl
theorem q1099 : Cond.instanceMethod ({ cls := "PinEngines$Tokens", name := "isSameAs", desc := "(I)Z" } : Jvm.MethodName) ∈ tb := tb_at 1099 (by decide +kernel) rfl
theorem q1100 : Cond.selects "PinEngines$Tokens" ({ cls := "PinEngines$Tokens", name := "isSameAs", desc := "(I)Z" } : Jvm.MethodName) ({ cls := "PinEngines$Tokens", name := "isSameAs", desc := "(I)Z" } : Jvm.MethodName) ∈ tb := tb_at 1100 (by decide +kernel) rfl
theorem q1101 : Cond.code ({ cls := "PinEngines$Tokens", name := "isSameAs", desc := "(I)Z" } : Jvm.MethodName) prog_13_method_15_code (4 : Nat) (Option.some Jvm.ClassFile.FieldType.boolean) ∈ tb := tb_at 1101 (by decide +kernel) rfl
theorem q1102 : Cond.methodLink "PinEngines$ProgramReader" (125 : Nat) ({ cls := "PinEngines$Tokens", name := "atRole", desc := "(I)Z" } : Jvm.MethodName) ∈ tb := tb_at 1102 (by decide +kernel) rfl
theorem q1103 : Cond.instanceMethod ({ cls := "PinEngines$Tokens", name := "atRole", desc := "(I)Z" } : Jvm.MethodName) ∈ tb := tb_at 1103 (by decide +kernel) rfl
theorem q1104 : Cond.selects "PinEngines$Tokens" ({ cls := "PinEngines$Tokens", name := "atRole", desc := "(I)Z" } : Jvm.MethodName) ({ cls := "PinEngines$Tokens", name := "atRole", desc := "(I)Z" } : Jvm.MethodName) ∈ tb := tb_at 1104 (by decide +kernel) rfl
theorem q1105 : Cond.code ({ cls := "PinEngines$Tokens", name := "atRole", desc := "(I)Z" } : Jvm.MethodName) prog_13_method_6_code (2 : Nat) (Option.some Jvm.ClassFile.FieldType.boolean) ∈ tb := tb_at 1105 (by decide +kernel) rfl
theorem q1106 : Cond.methodLink "PinEngines$ProgramReader" (128 : Nat) ({ cls := "PinEngines$Tokens", name := "takeRole", desc := "(I)LPinEngines$Symbol;" } : Jvm.MethodName) ∈ tb := tb_at 1106 (by decide +kernel) rfl
theorem q1107 : Cond.instanceMethod ({ cls := "PinEngines$Tokens", name := "takeRole", desc := "(I)LPinEngines$Symbol;" } : Jvm.MethodName) ∈ tb := tb_at 1107 (by decide +kernel) rfl
theorem q1108 : Cond.selects "PinEngines$Tokens" ({ cls := "PinEngines$Tokens", name := "takeRole", desc := "(I)LPinEngines$Symbol;" } : Jvm.MethodName) ({ cls := "PinEngines$Tokens", name := "takeRole", desc := "(I)LPinEngines$Symbol;" } : Jvm.MethodName) ∈ tb := tb_at 1108 (by decide +kernel) rfl
theorem q1109 : Cond.code ({ cls := "PinEngines$Tokens", name := "takeRole", desc := "(I)LPinEngines$Symbol;" } : Jvm.MethodName) prog_13_method_13_code (3 : Nat) (Option.some (Jvm.ClassFile.FieldType.object "PinEngines$Symbol")) ∈ tb := tb_at 1109 (by decide +kernel) rfl
theorem q1110 : Cond.methodLink "PinEngines$Tokens" (84 : Nat) ({ cls := "PinEngines$Tokens", name := "takeOptional", desc := "(I)LPinEngines$Symbol;" } : Jvm.MethodName) ∈ tb := tb_at 1110 (by decide +kernel) rfl
theorem q1111 : Cond.instanceMethod ({ cls := "PinEngines$Tokens", name := "takeOptional", desc := "(I)LPinEngines$Symbol;" } : Jvm.MethodName) ∈ tb := tb_at 1111 (by decide +kernel) rfl
theorem q1112 : Cond.selects "PinEngines$Tokens" ({ cls := "PinEngines$Tokens", name := "takeOptional", desc := "(I)LPinEngines$Symbol;" } : Jvm.MethodName) ({ cls := "PinEngines$Tokens", name := "takeOptional", desc := "(I)LPinEngines$Symbol;" } : Jvm.MethodName) ∈ tb := tb_at 1112 (by decide +kernel) rfl
theorem q1113 : Cond.code ({ cls := "PinEngines$Tokens", name := "takeOptional", desc := "(I)LPinEngines$Symbol;" } : Jvm.MethodName) prog_13_method_12_code (2 : Nat) (Option.some (Jvm.ClassFile.FieldType.object "PinEngines$Symbol")) ∈ tb := tb_at 1113 (by decide +kernel) rfl
theorem q1114 : Cond.methodLink "PinEngines$Tokens" (77 : Nat) ({ cls := "PinEngines$Tokens", name := "atRole", desc := "(I)Z" } : Jvm.MethodName) ∈ tb := tb_at 1114 (by decide +kernel) rfl
theorem q1115 : Cond.fieldLink "PinEngines$Tokens" (81 : Nat) "PinEngines$Symbol" "NOTHING" "LPinEngines$Symbol;" ∈ tb := tb_at 1115 (by decide +kernel) rfl
theorem q1116 : Cond.methodLink "PinEngines$ProgramReader" (132 : Nat) ({ cls := "PinEngines$ProgramReader", name := "readSetting", desc := "(LPinEngines$Setup;LPinEngines$Symbol;)V" } : Jvm.MethodName) ∈ tb := tb_at 1116 (by decide +kernel) rfl
theorem q1118 : Cond.instanceMethod ({ cls := "PinEngines$ProgramReader", name := "readSetting", desc := "(LPinEngines$Setup;LPinEngines$Symbol;)V" } : Jvm.MethodName) ∈ tb := tb_at 1118 (by decide +kernel) rfl
theorem q1119 : Cond.code ({ cls := "PinEngines$ProgramReader", name := "readSetting", desc := "(LPinEngines$Setup;LPinEngines$Symbol;)V" } : Jvm.MethodName) prog_7_method_5_code (3 : Nat) (Option.none : Option Jvm.ClassFile.FieldType) ∈ tb := tb_at 1119 (by decide +kernel) rfl
theorem q1120 : Cond.fieldLink "PinEngines$ProgramReader" (136 : Nat) "PinEngines$1" "$SwitchMap$PinEngines$Symbol" "[I" ∈ tb := tb_at 1120 (by decide +kernel) rfl
theorem q1122 : Cond.methodLink "PinEngines$ProgramReader" (141 : Nat) ({ cls := "PinEngines$Symbol", name := "ordinal", desc := "()I" } : Jvm.MethodName) ∈ tb := tb_at 1122 (by decide +kernel) rfl
theorem q1125 : Cond.selects "PinEngines$Symbol" ({ cls := "PinEngines$Symbol", name := "ordinal", desc := "()I" } : Jvm.MethodName) ({ cls := "java/lang/Enum", name := "ordinal", desc := "()I" } : Jvm.MethodName) ∈ tb := tb_at 1125 (by decide +kernel) rfl
theorem q1126 : Cond.instanceMethod ({ cls := "java/lang/Enum", name := "ordinal", desc := "()I" } : Jvm.MethodName) ∈ tb := tb_at 1126 (by decide +kernel) rfl
theorem q1127 : Cond.code ({ cls := "java/lang/Enum", name := "ordinal", desc := "()I" } : Jvm.MethodName) prog_22_method_2_code (1 : Nat) (Option.some Jvm.ClassFile.FieldType.int) ∈ tb := tb_at 1127 (by decide +kernel) rfl
theorem q1128 : Cond.methodLink "PinEngines$ProgramReader" (153 : Nat) ({ cls := "PinEngines$ProgramReader", name := "takePin", desc := "()I" } : Jvm.MethodName) ∈ tb := tb_at 1128 (by decide +kernel) rfl
theorem q1130 : Cond.instanceMethod ({ cls := "PinEngines$ProgramReader", name := "takePin", desc := "()I" } : Jvm.MethodName) ∈ tb := tb_at 1130 (by decide +kernel) rfl
theorem q1131 : Cond.code ({ cls := "PinEngines$ProgramReader", name := "takePin", desc := "()I" } : Jvm.MethodName) prog_7_method_15_code (1 : Nat) (Option.some Jvm.ClassFile.FieldType.int) ∈ tb := tb_at 1131 (by decide +kernel) rfl
theorem q1132 : Cond.methodLink "PinEngines$ProgramReader" (159 : Nat) ({ cls := "PinEngines$ProgramReader", name := "takeGroup", desc := "(II)I" } : Jvm.MethodName) ∈ tb := tb_at 1132 (by decide +kernel) rfl
theorem q1134 : Cond.instanceMethod ({ cls := "PinEngines$ProgramReader", name := "takeGroup", desc := "(II)I" } : Jvm.MethodName) ∈ tb := tb_at 1134 (by decide +kernel) rfl
theorem q1135 : Cond.code ({ cls := "PinEngines$ProgramReader", name := "takeGroup", desc := "(II)I" } : Jvm.MethodName) prog_7_method_17_code (4 : Nat) (Option.some Jvm.ClassFile.FieldType.int) ∈ tb := tb_at 1135 (by decide +kernel) rfl
theorem q1137 : Cond.static ({ cls := "PinEngines", name := "rotatedPins", desc := "(II)I" } : Jvm.MethodName) ∈ tb := tb_at 1137 (by decide +kernel) rfl
theorem q1138 : Cond.code ({ cls := "PinEngines", name := "rotatedPins", desc := "(II)I" } : Jvm.MethodName) prog_1_method_59_code (3 : Nat) (Option.some Jvm.ClassFile.FieldType.int) ∈ tb := tb_at 1138 (by decide +kernel) rfl
theorem q1139 : Cond.constant "PinEngines" (288 : Nat) (65535 : Int32) ∈ tb := tb_at 1139 (by decide +kernel) rfl
theorem q1140 : Cond.methodLink "PinEngines$ProgramReader" (183 : Nat) ({ cls := "PinEngines$ProgramReader", name := "readShifting", desc := "(LPinEngines$Setup;LPinEngines$Symbol;)V" } : Jvm.MethodName) ∈ tb := tb_at 1140 (by decide +kernel) rfl
theorem q1142 : Cond.instanceMethod ({ cls := "PinEngines$ProgramReader", name := "readShifting", desc := "(LPinEngines$Setup;LPinEngines$Symbol;)V" } : Jvm.MethodName) ∈ tb := tb_at 1142 (by decide +kernel) rfl
theorem q1143 : Cond.code ({ cls := "PinEngines$ProgramReader", name := "readShifting", desc := "(LPinEngines$Setup;LPinEngines$Symbol;)V" } : Jvm.MethodName) prog_7_method_6_code (3 : Nat) (Option.none : Option Jvm.ClassFile.FieldType) ∈ tb := tb_at 1143 (by decide +kernel) rfl
theorem q1144 : Cond.fieldLink "PinEngines$ProgramReader" (69 : Nat) "PinEngines$Symbol" "LEVEL" "LPinEngines$Symbol;" ∈ tb := tb_at 1144 (by decide +kernel) rfl
theorem q1146 : Cond.methodLink "PinEngines$ProgramReader" (72 : Nat) ({ cls := "PinEngines$ProgramReader", name := "readLevel", desc := "()V" } : Jvm.MethodName) ∈ tb := tb_at 1146 (by decide +kernel) rfl
theorem q1148 : Cond.instanceMethod ({ cls := "PinEngines$ProgramReader", name := "readLevel", desc := "()V" } : Jvm.MethodName) ∈ tb := tb_at 1148 (by decide +kernel) rfl
theorem q1149 : Cond.code ({ cls := "PinEngines$ProgramReader", name := "readLevel", desc := "()V" } : Jvm.MethodName) prog_7_method_7_code (3 : Nat) (Option.none : Option Jvm.ClassFile.FieldType) ∈ tb := tb_at 1149 (by decide +kernel) rfl
theorem q1150 : Cond.methodLink "PinEngines$ProgramReader" (75 : Nat) ({ cls := "PinEngines$ProgramReader", name := "readLabel", desc := "()V" } : Jvm.MethodName) ∈ tb := tb_at 1150 (by decide +kernel) rfl
theorem q1152 : Cond.instanceMethod ({ cls := "PinEngines$ProgramReader", name := "readLabel", desc := "()V" } : Jvm.MethodName) ∈ tb := tb_at 1152 (by decide +kernel) rfl
theorem q1153 : Cond.code ({ cls := "PinEngines$ProgramReader", name := "readLabel", desc := "()V" } : Jvm.MethodName) prog_7_method_8_code (1 : Nat) (Option.none : Option Jvm.ClassFile.FieldType) ∈ tb := tb_at 1153 (by decide +kernel) rfl
theorem q1154 : Cond.methodLink "PinEngines$ProgramReader" (213 : Nat) ({ cls := "PinEngines$ProgramReader", name := "defineLabel", desc := "()V" } : Jvm.MethodName) ∈ tb := tb_at 1154 (by decide +kernel) rfl
theorem q1156 : Cond.instanceMethod ({ cls := "PinEngines$ProgramReader", name := "defineLabel", desc := "()V" } : Jvm.MethodName) ∈ tb := tb_at 1156 (by decide +kernel) rfl
theorem q1157 : Cond.code ({ cls := "PinEngines$ProgramReader", name := "defineLabel", desc := "()V" } : Jvm.MethodName) prog_7_method_9_code (1 : Nat) (Option.none : Option Jvm.ClassFile.FieldType) ∈ tb := tb_at 1157 (by decide +kernel) rfl
theorem q1158 : Cond.fieldLink "PinEngines$ProgramReader" (216 : Nat) "PinEngines$Symbol" "COLON" "LPinEngines$Symbol;" ∈ tb := tb_at 1158 (by decide +kernel) rfl
theorem q1160 : Cond.methodLink "PinEngines$ProgramReader" (78 : Nat) ({ cls := "PinEngines$ProgramReader", name := "readInstruction", desc := "()V" } : Jvm.MethodName) ∈ tb := tb_at 1160 (by decide +kernel) rfl
theorem q1162 : Cond.instanceMethod ({ cls := "PinEngines$ProgramReader", name := "readInstruction", desc := "()V" } : Jvm.MethodName) ∈ tb := tb_at 1162 (by decide +kernel) rfl
theorem q1163 : Cond.code ({ cls := "PinEngines$ProgramReader", name := "readInstruction", desc := "()V" } : Jvm.MethodName) prog_7_method_11_code (2 : Nat) (Option.none : Option Jvm.ClassFile.FieldType) ∈ tb := tb_at 1163 (by decide +kernel) rfl
theorem q1164 : Cond.methodLink "PinEngines$ProgramReader" (231 : Nat) ({ cls := "PinEngines$Program", name := "isFull", desc := "()Z" } : Jvm.MethodName) ∈ tb := tb_at 1164 (by decide +kernel) rfl
theorem q1165 : Cond.instanceMethod ({ cls := "PinEngines$Program", name := "isFull", desc := "()Z" } : Jvm.MethodName) ∈ tb := tb_at 1165 (by decide +kernel) rfl
theorem q1166 : Cond.selects "PinEngines$Program" ({ cls := "PinEngines$Program", name := "isFull", desc := "()Z" } : Jvm.MethodName) ({ cls := "PinEngines$Program", name := "isFull", desc := "()Z" } : Jvm.MethodName) ∈ tb := tb_at 1166 (by decide +kernel) rfl
theorem q1167 : Cond.code ({ cls := "PinEngines$Program", name := "isFull", desc := "()Z" } : Jvm.MethodName) prog_6_method_3_code (1 : Nat) (Option.some Jvm.ClassFile.FieldType.boolean) ∈ tb := tb_at 1167 (by decide +kernel) rfl
theorem q1168 : Cond.methodLink "PinEngines$ProgramReader" (235 : Nat) ({ cls := "PinEngines$Program", name := "add", desc := "(LPinEngines$Symbol;)LPinEngines$Instruction;" } : Jvm.MethodName) ∈ tb := tb_at 1168 (by decide +kernel) rfl
theorem q1169 : Cond.instanceMethod ({ cls := "PinEngines$Program", name := "add", desc := "(LPinEngines$Symbol;)LPinEngines$Instruction;" } : Jvm.MethodName) ∈ tb := tb_at 1169 (by decide +kernel) rfl
theorem q1170 : Cond.selects "PinEngines$Program" ({ cls := "PinEngines$Program", name := "add", desc := "(LPinEngines$Symbol;)LPinEngines$Instruction;" } : Jvm.MethodName) ({ cls := "PinEngines$Program", name := "add", desc := "(LPinEngines$Symbol;)LPinEngines$Instruction;" } : Jvm.MethodName) ∈ tb := tb_at 1170 (by decide +kernel) rfl
theorem q1171 : Cond.code ({ cls := "PinEngines$Program", name := "add", desc := "(LPinEngines$Symbol;)LPinEngines$Instruction;" } : Jvm.MethodName) prog_6_method_4_code (3 : Nat) (Option.some (Jvm.ClassFile.FieldType.object "PinEngines$Instruction")) ∈ tb := tb_at 1171 (by decide +kernel) rfl
theorem q1172 : Cond.methodLink "PinEngines$Program" (39 : Nat) ({ cls := "PinEngines$Program", name := "isFull", desc := "()Z" } : Jvm.MethodName) ∈ tb := tb_at 1172 (by decide +kernel) rfl
theorem q1173 : Cond.methodLink "PinEngines$Program" (43 : Nat) ({ cls := "PinEngines$Instruction", name := "clearTo", desc := "(LPinEngines$Symbol;)V" } : Jvm.MethodName) ∈ tb := tb_at 1173 (by decide +kernel) rfl
theorem q1174 : Cond.instanceMethod ({ cls := "PinEngines$Instruction", name := "clearTo", desc := "(LPinEngines$Symbol;)V" } : Jvm.MethodName) ∈ tb := tb_at 1174 (by decide +kernel) rfl
theorem q1175 : Cond.selects "PinEngines$Instruction" ({ cls := "PinEngines$Instruction", name := "clearTo", desc := "(LPinEngines$Symbol;)V" } : Jvm.MethodName) ({ cls := "PinEngines$Instruction", name := "clearTo", desc := "(LPinEngines$Symbol;)V" } : Jvm.MethodName) ∈ tb := tb_at 1175 (by decide +kernel) rfl
theorem q1176 : Cond.code ({ cls := "PinEngines$Instruction", name := "clearTo", desc := "(LPinEngines$Symbol;)V" } : Jvm.MethodName) prog_4_method_2_code (2 : Nat) (Option.none : Option Jvm.ClassFile.FieldType) ∈ tb := tb_at 1176 (by decide +kernel) rfl
theorem q1177 : Cond.methodLink "PinEngines$ProgramReader" (239 : Nat) ({ cls := "PinEngines$ProgramReader", name := "readOperands", desc := "(LPinEngines$Instruction;)V" } : Jvm.MethodName) ∈ tb := tb_at 1177 (by decide +kernel) rfl
theorem q1179 : Cond.instanceMethod ({ cls := "PinEngines$ProgramReader", name := "readOperands", desc := "(LPinEngines$Instruction;)V" } : Jvm.MethodName) ∈ tb := tb_at 1179 (by decide +kernel) rfl
theorem q1180 : Cond.code ({ cls := "PinEngines$ProgramReader", name := "readOperands", desc := "(LPinEngines$Instruction;)V" } : Jvm.MethodName) prog_7_method_12_code (2 : Nat) (Option.none : Option Jvm.ClassFile.FieldType) ∈ tb := tb_at 1180 (by decide +kernel) rfl
theorem q1181 : Cond.methodLink "PinEngines$ProgramReader" (260 : Nat) ({ cls := "PinEngines$Tokens", name := "takeOptional", desc := "(I)LPinEngines$Symbol;" } : Jvm.MethodName) ∈ tb := tb_at 1181 (by decide +kernel) rfl
theorem q1182 : Cond.fieldLink "PinEngines$ProgramReader" (271 : Nat) "PinEngines$Symbol" "PIN" "LPinEngines$Symbol;" ∈ tb := tb_at 1182 (by decide +kernel) rfl
theorem q1184 : Cond.methodLink "PinEngines$ProgramReader" (274 : Nat) ({ cls := "PinEngines$ProgramReader", name := "takeFlag", desc := "()I" } : Jvm.MethodName) ∈ tb := tb_at 1184 (by decide +kernel) rfl
theorem q1186 : Cond.instanceMethod ({ cls := "PinEngines$ProgramReader", name := "takeFlag", desc := "()I" } : Jvm.MethodName) ∈ tb := tb_at 1186 (by decide +kernel) rfl
theorem q1187 : Cond.code ({ cls := "PinEngines$ProgramReader", name := "takeFlag", desc := "()I" } : Jvm.MethodName) prog_7_method_16_code (1 : Nat) (Option.some Jvm.ClassFile.FieldType.int) ∈ tb := tb_at 1187 (by decide +kernel) rfl
theorem q1188 : Cond.fieldLink "PinEngines$ProgramReader" (277 : Nat) "PinEngines$Symbol" "IFFULL" "LPinEngines$Symbol;" ∈ tb := tb_at 1188 (by decide +kernel) rfl
theorem q1190 : Cond.methodLink "PinEngines$ProgramReader" (280 : Nat) ({ cls := "PinEngines$ProgramReader", name := "readWays", desc := "(LPinEngines$Instruction;LPinEngines$Symbol;)V" } : Jvm.MethodName) ∈ tb := tb_at 1190 (by decide +kernel) rfl
theorem q1192 : Cond.instanceMethod ({ cls := "PinEngines$ProgramReader", name := "readWays", desc := "(LPinEngines$Instruction;LPinEngines$Symbol;)V" } : Jvm.MethodName) ∈ tb := tb_at 1192 (by decide +kernel) rfl
theorem q1193 : Cond.code ({ cls := "PinEngines$ProgramReader", name := "readWays", desc := "(LPinEngines$Instruction;LPinEngines$Symbol;)V" } : Jvm.MethodName) prog_7_method_13_code (3 : Nat) (Option.none : Option Jvm.ClassFile.FieldType) ∈ tb := tb_at 1193 (by decide +kernel) rfl
theorem q1194 : Cond.fieldLink "PinEngines$ProgramReader" (296 : Nat) "PinEngines$Symbol" "NOBLOCK" "LPinEngines$Symbol;" ∈ tb := tb_at 1194 (by decide +kernel) rfl
theorem q1196 : Cond.fieldLink "PinEngines$ProgramReader" (284 : Nat) "PinEngines$Symbol" "IFEMPTY" "LPinEngines$Symbol;" ∈ tb := tb_at 1196 (by decide +kernel) rfl
theorem q1198 : Cond.methodLink "PinEngines$ProgramReader" (293 : Nat) ({ cls := "PinEngines$ProgramReader", name := "readPlace", desc := "(LPinEngines$Instruction;)V" } : Jvm.MethodName) ∈ tb := tb_at 1198 (by decide +kernel) rfl
theorem q1200 : Cond.instanceMethod ({ cls := "PinEngines$ProgramReader", name := "readPlace", desc := "(LPinEngines$Instruction;)V" } : Jvm.MethodName) ∈ tb := tb_at 1200 (by decide +kernel) rfl
theorem q1201 : Cond.code ({ cls := "PinEngines$ProgramReader", name := "readPlace", desc := "(LPinEngines$Instruction;)V" } : Jvm.MethodName) prog_7_method_14_code (2 : Nat) (Option.none : Option Jvm.ClassFile.FieldType) ∈ tb := tb_at 1201 (by decide +kernel) rfl
theorem q1202 : Cond.fieldLink "PinEngines$ProgramReader" (299 : Nat) "PinEngines$Symbol" "NOTHING" "LPinEngines$Symbol;" ∈ tb := tb_at 1202 (by decide +kernel) rfl
theorem q1203 : Cond.fieldLink "PinEngines$ProgramReader" (243 : Nat) "PinEngines$Symbol" "SIDE" "LPinEngines$Symbol;" ∈ tb := tb_at 1203 (by decide +kernel) rfl
theorem q1205 : Cond.fieldLink "PinEngines$ProgramReader" (251 : Nat) "PinEngines$Symbol" "DELAY" "LPinEngines$Symbol;" ∈ tb := tb_at 1205 (by decide +kernel) rfl
theorem q1207 : Cond.fieldLink "PinEngines$ProgramReader" (81 : Nat) "PinEngines$Symbol" "SEMICOLON" "LPinEngines$Symbol;" ∈ tb := tb_at 1207 (by decide +kernel) rfl
theorem q1209 : Cond.methodLink "PinEnginesLaw" (158 : Nat) ({ cls := "PinEnginesLaw", name := "level", desc := "(LPinEngines;I[J)I" } : Jvm.MethodName) ∈ tb := tb_at 1209 (by decide +kernel) rfl
theorem q1210 : Cond.static ({ cls := "PinEnginesLaw", name := "level", desc := "(LPinEngines;I[J)I" } : Jvm.MethodName) ∈ tb := tb_at 1210 (by decide +kernel) rfl
theorem q1212 : Cond.classLink "PinEnginesLaw" (18 : Nat) "java/util/NoSuchElementException" ∈ tb := tb_at 1212 (by decide +kernel) rfl
theorem q1213 : Cond.methodLink "PinEnginesLaw" (15 : Nat) ({ cls := "PinEngines", name := "level", desc := "(I)I" } : Jvm.MethodName) ∈ tb := tb_at 1213 (by decide +kernel) rfl
theorem q1214 : Cond.instanceMethod ({ cls := "PinEngines", name := "level", desc := "(I)I" } : Jvm.MethodName) ∈ tb := tb_at 1214 (by decide +kernel) rfl
theorem q1215 : Cond.selects "PinEngines" ({ cls := "PinEngines", name := "level", desc := "(I)I" } : Jvm.MethodName) ({ cls := "PinEngines", name := "level", desc := "(I)I" } : Jvm.MethodName) ∈ tb := tb_at 1215 (by decide +kernel) rfl
theorem q1216 : Cond.code ({ cls := "PinEngines", name := "level", desc := "(I)I" } : Jvm.MethodName) prog_1_method_8_code (2 : Nat) (Option.some Jvm.ClassFile.FieldType.int) ∈ tb := tb_at 1216 (by decide +kernel) rfl
theorem q1217 : Cond.methodLink "PinEngines" (134 : Nat) ({ cls := "PinEngines", name := "checkPin", desc := "(I)V" } : Jvm.MethodName) ∈ tb := tb_at 1217 (by decide +kernel) rfl
theorem q1218 : Cond.static ({ cls := "PinEngines", name := "checkPin", desc := "(I)V" } : Jvm.MethodName) ∈ tb := tb_at 1218 (by decide +kernel) rfl
theorem q1219 : Cond.code ({ cls := "PinEngines", name := "checkPin", desc := "(I)V" } : Jvm.MethodName) prog_1_method_54_code (1 : Nat) (Option.none : Option Jvm.ClassFile.FieldType) ∈ tb := tb_at 1219 (by decide +kernel) rfl
theorem q1220 : Cond.classLink "PinEngines" (146 : Nat) "java/util/NoSuchElementException" ∈ tb := tb_at 1220 (by decide +kernel) rfl
theorem q1221 : Cond.instantiable "java/util/NoSuchElementException" (6 : Nat) ∈ tb := tb_at 1221 (by decide +kernel) rfl
theorem q1223 : Cond.selects "java/util/NoSuchElementException" ({ cls := "java/lang/Throwable", name := "fillInStackTrace", desc := "(I)Ljava/lang/Throwable;" } : Jvm.MethodName) ({ cls := "java/lang/Throwable", name := "fillInStackTrace", desc := "(I)Ljava/lang/Throwable;" } : Jvm.MethodName) ∈ tb := tb_at 1223 (by decide +kernel) rfl
theorem q1224 : Cond.lays "java/util/NoSuchElementException" "java/lang/Throwable" "cause" "Ljava/lang/Throwable;" ∈ tb := tb_at 1224 (by decide +kernel) rfl
theorem q1225 : Cond.lays "java/util/NoSuchElementException" "java/lang/Throwable" "stackTrace" "[Ljava/lang/StackTraceElement;" ∈ tb := tb_at 1225 (by decide +kernel) rfl
theorem q1226 : Cond.lays "java/util/NoSuchElementException" "java/lang/Throwable" "suppressedExceptions" "Ljava/util/List;" ∈ tb := tb_at 1226 (by decide +kernel) rfl
theorem q1227 : Cond.lays "java/util/NoSuchElementException" "java/lang/Throwable" "detailMessage" "Ljava/lang/String;" ∈ tb := tb_at 1227 (by decide +kernel) rfl
theorem q1228 : Cond.lays "java/util/NoSuchElementException" "java/lang/Throwable" "backtrace" "Ljava/lang/Object;" ∈ tb := tb_at 1228 (by decide +kernel) rfl
theorem q1229 : Cond.methodLink "PinEngines" (148 : Nat) ({ cls := "java/util/NoSuchElementException", name := "<init>", desc := "()V" } : Jvm.MethodName) ∈ tb := tb_at 1229 (by decide +kernel) rfl
theorem q1230 : Cond.instanceMethod ({ cls := "java/util/NoSuchElementException", name := "<init>", desc := "()V" } : Jvm.MethodName) ∈ tb := tb_at 1230 (by decide +kernel) rfl
theorem q1231 : Cond.code ({ cls := "java/util/NoSuchElementException", name := "<init>", desc := "()V" } : Jvm.MethodName) prog_38_method_1_code (1 : Nat) (Option.none : Option Jvm.ClassFile.FieldType) ∈ tb := tb_at 1231 (by decide +kernel) rfl
theorem q1232 : Cond.methodLink "java/util/NoSuchElementException" (1 : Nat) ({ cls := "java/lang/RuntimeException", name := "<init>", desc := "()V" } : Jvm.MethodName) ∈ tb := tb_at 1232 (by decide +kernel) rfl
theorem q1233 : Cond.lays "java/util/NoSuchElementException" "java/lang/Throwable" "depth" "I" ∈ tb := tb_at 1233 (by decide +kernel) rfl
theorem q1235 : Cond.methodLink "PinEngines" (137 : Nat) ({ cls := "PinEngines$Machine", name := "levels", desc := "()I" } : Jvm.MethodName) ∈ tb := tb_at 1235 (by decide +kernel) rfl
theorem q1236 : Cond.methodLink "PinEnginesLaw" (161 : Nat) ({ cls := "PinEnginesLaw", name := "latch", desc := "(LPinEngines;I[J)I" } : Jvm.MethodName) ∈ tb := tb_at 1236 (by decide +kernel) rfl
theorem q1237 : Cond.static ({ cls := "PinEnginesLaw", name := "latch", desc := "(LPinEngines;I[J)I" } : Jvm.MethodName) ∈ tb := tb_at 1237 (by decide +kernel) rfl
theorem q1239 : Cond.methodLink "PinEnginesLaw" (20 : Nat) ({ cls := "PinEngines", name := "latch", desc := "(I)I" } : Jvm.MethodName) ∈ tb := tb_at 1239 (by decide +kernel) rfl
theorem q1240 : Cond.instanceMethod ({ cls := "PinEngines", name := "latch", desc := "(I)I" } : Jvm.MethodName) ∈ tb := tb_at 1240 (by decide +kernel) rfl
theorem q1241 : Cond.selects "PinEngines" ({ cls := "PinEngines", name := "latch", desc := "(I)I" } : Jvm.MethodName) ({ cls := "PinEngines", name := "latch", desc := "(I)I" } : Jvm.MethodName) ∈ tb := tb_at 1241 (by decide +kernel) rfl
theorem q1242 : Cond.code ({ cls := "PinEngines", name := "latch", desc := "(I)I" } : Jvm.MethodName) prog_1_method_9_code (2 : Nat) (Option.some Jvm.ClassFile.FieldType.int) ∈ tb := tb_at 1242 (by decide +kernel) rfl
theorem q1243 : Cond.methodLink "PinEnginesLaw" (164 : Nat) ({ cls := "PinEnginesLaw", name := "isOutput", desc := "(LPinEngines;I[J)I" } : Jvm.MethodName) ∈ tb := tb_at 1243 (by decide +kernel) rfl
theorem q1244 : Cond.static ({ cls := "PinEnginesLaw", name := "isOutput", desc := "(LPinEngines;I[J)I" } : Jvm.MethodName) ∈ tb := tb_at 1244 (by decide +kernel) rfl
theorem q1246 : Cond.methodLink "PinEnginesLaw" (23 : Nat) ({ cls := "PinEngines", name := "isOutput", desc := "(I)Z" } : Jvm.MethodName) ∈ tb := tb_at 1246 (by decide +kernel) rfl
theorem q1247 : Cond.instanceMethod ({ cls := "PinEngines", name := "isOutput", desc := "(I)Z" } : Jvm.MethodName) ∈ tb := tb_at 1247 (by decide +kernel) rfl
theorem q1248 : Cond.selects "PinEngines" ({ cls := "PinEngines", name := "isOutput", desc := "(I)Z" } : Jvm.MethodName) ({ cls := "PinEngines", name := "isOutput", desc := "(I)Z" } : Jvm.MethodName) ∈ tb := tb_at 1248 (by decide +kernel) rfl
theorem q1249 : Cond.code ({ cls := "PinEngines", name := "isOutput", desc := "(I)Z" } : Jvm.MethodName) prog_1_method_10_code (2 : Nat) (Option.some Jvm.ClassFile.FieldType.boolean) ∈ tb := tb_at 1249 (by decide +kernel) rfl
theorem q1250 : Cond.methodLink "PinEnginesLaw" (167 : Nat) ({ cls := "PinEnginesLaw", name := "flag", desc := "(LPinEngines;I[J)I" } : Jvm.MethodName) ∈ tb := tb_at 1250 (by decide +kernel) rfl
theorem q1251 : Cond.static ({ cls := "PinEnginesLaw", name := "flag", desc := "(LPinEngines;I[J)I" } : Jvm.MethodName) ∈ tb := tb_at 1251 (by decide +kernel) rfl
theorem q1253 : Cond.methodLink "PinEnginesLaw" (27 : Nat) ({ cls := "PinEngines", name := "flag", desc := "(I)I" } : Jvm.MethodName) ∈ tb := tb_at 1253 (by decide +kernel) rfl
theorem q1254 : Cond.instanceMethod ({ cls := "PinEngines", name := "flag", desc := "(I)I" } : Jvm.MethodName) ∈ tb := tb_at 1254 (by decide +kernel) rfl
theorem q1255 : Cond.selects "PinEngines" ({ cls := "PinEngines", name := "flag", desc := "(I)I" } : Jvm.MethodName) ({ cls := "PinEngines", name := "flag", desc := "(I)I" } : Jvm.MethodName) ∈ tb := tb_at 1255 (by decide +kernel) rfl
theorem q1256 : Cond.code ({ cls := "PinEngines", name := "flag", desc := "(I)I" } : Jvm.MethodName) prog_1_method_11_code (2 : Nat) (Option.some Jvm.ClassFile.FieldType.int) ∈ tb := tb_at 1256 (by decide +kernel) rfl
theorem q1257 : Cond.methodLink "PinEnginesLaw" (170 : Nat) ({ cls := "PinEnginesLaw", name := "memory", desc := "(LPinEngines;I[J)I" } : Jvm.MethodName) ∈ tb := tb_at 1257 (by decide +kernel) rfl
theorem q1258 : Cond.static ({ cls := "PinEnginesLaw", name := "memory", desc := "(LPinEngines;I[J)I" } : Jvm.MethodName) ∈ tb := tb_at 1258 (by decide +kernel) rfl
theorem q1260 : Cond.methodLink "PinEnginesLaw" (30 : Nat) ({ cls := "PinEngines", name := "memory", desc := "(I)I" } : Jvm.MethodName) ∈ tb := tb_at 1260 (by decide +kernel) rfl
theorem q1261 : Cond.instanceMethod ({ cls := "PinEngines", name := "memory", desc := "(I)I" } : Jvm.MethodName) ∈ tb := tb_at 1261 (by decide +kernel) rfl
theorem q1262 : Cond.selects "PinEngines" ({ cls := "PinEngines", name := "memory", desc := "(I)I" } : Jvm.MethodName) ({ cls := "PinEngines", name := "memory", desc := "(I)I" } : Jvm.MethodName) ∈ tb := tb_at 1262 (by decide +kernel) rfl
theorem q1263 : Cond.code ({ cls := "PinEngines", name := "memory", desc := "(I)I" } : Jvm.MethodName) prog_1_method_12_code (2 : Nat) (Option.some Jvm.ClassFile.FieldType.int) ∈ tb := tb_at 1263 (by decide +kernel) rfl
theorem q1264 : Cond.methodLink "PinEngines" (152 : Nat) ({ cls := "PinEngines", name := "checkMemory", desc := "(I)V" } : Jvm.MethodName) ∈ tb := tb_at 1264 (by decide +kernel) rfl
theorem q1265 : Cond.static ({ cls := "PinEngines", name := "checkMemory", desc := "(I)V" } : Jvm.MethodName) ∈ tb := tb_at 1265 (by decide +kernel) rfl
theorem q1266 : Cond.code ({ cls := "PinEngines", name := "checkMemory", desc := "(I)V" } : Jvm.MethodName) prog_1_method_55_code (1 : Nat) (Option.none : Option Jvm.ClassFile.FieldType) ∈ tb := tb_at 1266 (by decide +kernel) rfl
theorem q1267 : Cond.methodLink "PinEnginesLaw" (177 : Nat) ({ cls := "PinEnginesLaw", name := "pc", desc := "(LPinEngines;I[J)I" } : Jvm.MethodName) ∈ tb := tb_at 1267 (by decide +kernel) rfl
theorem q1268 : Cond.static ({ cls := "PinEnginesLaw", name := "pc", desc := "(LPinEngines;I[J)I" } : Jvm.MethodName) ∈ tb := tb_at 1268 (by decide +kernel) rfl
theorem q1270 : Cond.methodLink "PinEnginesLaw" (33 : Nat) ({ cls := "PinEngines", name := "pc", desc := "(I)I" } : Jvm.MethodName) ∈ tb := tb_at 1270 (by decide +kernel) rfl
theorem q1271 : Cond.instanceMethod ({ cls := "PinEngines", name := "pc", desc := "(I)I" } : Jvm.MethodName) ∈ tb := tb_at 1271 (by decide +kernel) rfl
theorem q1272 : Cond.selects "PinEngines" ({ cls := "PinEngines", name := "pc", desc := "(I)I" } : Jvm.MethodName) ({ cls := "PinEngines", name := "pc", desc := "(I)I" } : Jvm.MethodName) ∈ tb := tb_at 1272 (by decide +kernel) rfl
theorem q1273 : Cond.code ({ cls := "PinEngines", name := "pc", desc := "(I)I" } : Jvm.MethodName) prog_1_method_14_code (2 : Nat) (Option.some Jvm.ClassFile.FieldType.int) ∈ tb := tb_at 1273 (by decide +kernel) rfl
theorem q1274 : Cond.methodLink "PinEngines" (162 : Nat) ({ cls := "PinEngines", name := "existingEngine", desc := "(I)LPinEngines$Engine;" } : Jvm.MethodName) ∈ tb := tb_at 1274 (by decide +kernel) rfl
theorem q1276 : Cond.instanceMethod ({ cls := "PinEngines", name := "existingEngine", desc := "(I)LPinEngines$Engine;" } : Jvm.MethodName) ∈ tb := tb_at 1276 (by decide +kernel) rfl
theorem q1277 : Cond.code ({ cls := "PinEngines", name := "existingEngine", desc := "(I)LPinEngines$Engine;" } : Jvm.MethodName) prog_1_method_51_code (2 : Nat) (Option.some (Jvm.ClassFile.FieldType.object "PinEngines$Engine")) ∈ tb := tb_at 1277 (by decide +kernel) rfl
theorem q1278 : Cond.methodLink "PinEngines" (343 : Nat) ({ cls := "PinEngines$Program", name := "hasEngine", desc := "(I)Z" } : Jvm.MethodName) ∈ tb := tb_at 1278 (by decide +kernel) rfl
theorem q1279 : Cond.methodLink "PinEnginesLaw" (180 : Nat) ({ cls := "PinEnginesLaw", name := "register", desc := "(LPinEngines;II[J)I" } : Jvm.MethodName) ∈ tb := tb_at 1279 (by decide +kernel) rfl
theorem q1280 : Cond.static ({ cls := "PinEnginesLaw", name := "register", desc := "(LPinEngines;II[J)I" } : Jvm.MethodName) ∈ tb := tb_at 1280 (by decide +kernel) rfl
theorem q1282 : Cond.methodLink "PinEnginesLaw" (36 : Nat) ({ cls := "PinEngines", name := "register", desc := "(II)I" } : Jvm.MethodName) ∈ tb := tb_at 1282 (by decide +kernel) rfl
theorem q1283 : Cond.instanceMethod ({ cls := "PinEngines", name := "register", desc := "(II)I" } : Jvm.MethodName) ∈ tb := tb_at 1283 (by decide +kernel) rfl
theorem q1284 : Cond.selects "PinEngines" ({ cls := "PinEngines", name := "register", desc := "(II)I" } : Jvm.MethodName) ({ cls := "PinEngines", name := "register", desc := "(II)I" } : Jvm.MethodName) ∈ tb := tb_at 1284 (by decide +kernel) rfl
theorem q1285 : Cond.code ({ cls := "PinEngines", name := "register", desc := "(II)I" } : Jvm.MethodName) prog_1_method_15_code (4 : Nat) (Option.some Jvm.ClassFile.FieldType.int) ∈ tb := tb_at 1285 (by decide +kernel) rfl
theorem q1286 : Cond.methodLink "PinEnginesLaw" (184 : Nat) ({ cls := "PinEnginesLaw", name := "fill", desc := "(LPinEngines;I[J)I" } : Jvm.MethodName) ∈ tb := tb_at 1286 (by decide +kernel) rfl
theorem q1287 : Cond.static ({ cls := "PinEnginesLaw", name := "fill", desc := "(LPinEngines;I[J)I" } : Jvm.MethodName) ∈ tb := tb_at 1287 (by decide +kernel) rfl
theorem q1289 : Cond.methodLink "PinEnginesLaw" (40 : Nat) ({ cls := "PinEngines", name := "fill", desc := "(I)I" } : Jvm.MethodName) ∈ tb := tb_at 1289 (by decide +kernel) rfl
theorem q1290 : Cond.instanceMethod ({ cls := "PinEngines", name := "fill", desc := "(I)I" } : Jvm.MethodName) ∈ tb := tb_at 1290 (by decide +kernel) rfl
theorem q1291 : Cond.selects "PinEngines" ({ cls := "PinEngines", name := "fill", desc := "(I)I" } : Jvm.MethodName) ({ cls := "PinEngines", name := "fill", desc := "(I)I" } : Jvm.MethodName) ∈ tb := tb_at 1291 (by decide +kernel) rfl
theorem q1292 : Cond.code ({ cls := "PinEngines", name := "fill", desc := "(I)I" } : Jvm.MethodName) prog_1_method_16_code (2 : Nat) (Option.some Jvm.ClassFile.FieldType.int) ∈ tb := tb_at 1292 (by decide +kernel) rfl
theorem q1293 : Cond.methodLink "PinEnginesLaw" (187 : Nat) ({ cls := "PinEnginesLaw", name := "spent", desc := "(LPinEngines;I[J)I" } : Jvm.MethodName) ∈ tb := tb_at 1293 (by decide +kernel) rfl
theorem q1294 : Cond.static ({ cls := "PinEnginesLaw", name := "spent", desc := "(LPinEngines;I[J)I" } : Jvm.MethodName) ∈ tb := tb_at 1294 (by decide +kernel) rfl
theorem q1296 : Cond.methodLink "PinEnginesLaw" (43 : Nat) ({ cls := "PinEngines", name := "spent", desc := "(I)I" } : Jvm.MethodName) ∈ tb := tb_at 1296 (by decide +kernel) rfl
theorem q1297 : Cond.instanceMethod ({ cls := "PinEngines", name := "spent", desc := "(I)I" } : Jvm.MethodName) ∈ tb := tb_at 1297 (by decide +kernel) rfl
theorem q1298 : Cond.selects "PinEngines" ({ cls := "PinEngines", name := "spent", desc := "(I)I" } : Jvm.MethodName) ({ cls := "PinEngines", name := "spent", desc := "(I)I" } : Jvm.MethodName) ∈ tb := tb_at 1298 (by decide +kernel) rfl
theorem q1299 : Cond.code ({ cls := "PinEngines", name := "spent", desc := "(I)I" } : Jvm.MethodName) prog_1_method_17_code (2 : Nat) (Option.some Jvm.ClassFile.FieldType.int) ∈ tb := tb_at 1299 (by decide +kernel) rfl
theorem q1300 : Cond.methodLink "PinEnginesLaw" (190 : Nat) ({ cls := "PinEnginesLaw", name := "delayLeft", desc := "(LPinEngines;I[J)I" } : Jvm.MethodName) ∈ tb := tb_at 1300 (by decide +kernel) rfl
theorem q1301 : Cond.static ({ cls := "PinEnginesLaw", name := "delayLeft", desc := "(LPinEngines;I[J)I" } : Jvm.MethodName) ∈ tb := tb_at 1301 (by decide +kernel) rfl
theorem q1303 : Cond.methodLink "PinEnginesLaw" (46 : Nat) ({ cls := "PinEngines", name := "delayLeft", desc := "(I)I" } : Jvm.MethodName) ∈ tb := tb_at 1303 (by decide +kernel) rfl
theorem q1304 : Cond.instanceMethod ({ cls := "PinEngines", name := "delayLeft", desc := "(I)I" } : Jvm.MethodName) ∈ tb := tb_at 1304 (by decide +kernel) rfl
theorem q1305 : Cond.selects "PinEngines" ({ cls := "PinEngines", name := "delayLeft", desc := "(I)I" } : Jvm.MethodName) ({ cls := "PinEngines", name := "delayLeft", desc := "(I)I" } : Jvm.MethodName) ∈ tb := tb_at 1305 (by decide +kernel) rfl
theorem q1306 : Cond.code ({ cls := "PinEngines", name := "delayLeft", desc := "(I)I" } : Jvm.MethodName) prog_1_method_18_code (2 : Nat) (Option.some Jvm.ClassFile.FieldType.int) ∈ tb := tb_at 1306 (by decide +kernel) rfl
theorem q1307 : Cond.methodLink "PinEnginesLaw" (193 : Nat) ({ cls := "PinEnginesLaw", name := "stall", desc := "(LPinEngines;I[J)I" } : Jvm.MethodName) ∈ tb := tb_at 1307 (by decide +kernel) rfl
theorem q1308 : Cond.static ({ cls := "PinEnginesLaw", name := "stall", desc := "(LPinEngines;I[J)I" } : Jvm.MethodName) ∈ tb := tb_at 1308 (by decide +kernel) rfl
theorem q1310 : Cond.methodLink "PinEnginesLaw" (49 : Nat) ({ cls := "PinEngines", name := "stall", desc := "(I)I" } : Jvm.MethodName) ∈ tb := tb_at 1310 (by decide +kernel) rfl
theorem q1311 : Cond.instanceMethod ({ cls := "PinEngines", name := "stall", desc := "(I)I" } : Jvm.MethodName) ∈ tb := tb_at 1311 (by decide +kernel) rfl
theorem q1312 : Cond.selects "PinEngines" ({ cls := "PinEngines", name := "stall", desc := "(I)I" } : Jvm.MethodName) ({ cls := "PinEngines", name := "stall", desc := "(I)I" } : Jvm.MethodName) ∈ tb := tb_at 1312 (by decide +kernel) rfl
theorem q1313 : Cond.code ({ cls := "PinEngines", name := "stall", desc := "(I)I" } : Jvm.MethodName) prog_1_method_19_code (2 : Nat) (Option.some Jvm.ClassFile.FieldType.int) ∈ tb := tb_at 1313 (by decide +kernel) rfl
theorem q1314 : Cond.methodLink "PinEnginesLaw" (196 : Nat) ({ cls := "PinEnginesLaw", name := "isEnabled", desc := "(LPinEngines;I[J)I" } : Jvm.MethodName) ∈ tb := tb_at 1314 (by decide +kernel) rfl
theorem q1315 : Cond.static ({ cls := "PinEnginesLaw", name := "isEnabled", desc := "(LPinEngines;I[J)I" } : Jvm.MethodName) ∈ tb := tb_at 1315 (by decide +kernel) rfl
theorem q1317 : Cond.methodLink "PinEnginesLaw" (52 : Nat) ({ cls := "PinEngines", name := "isEnabled", desc := "(I)Z" } : Jvm.MethodName) ∈ tb := tb_at 1317 (by decide +kernel) rfl
theorem q1318 : Cond.instanceMethod ({ cls := "PinEngines", name := "isEnabled", desc := "(I)Z" } : Jvm.MethodName) ∈ tb := tb_at 1318 (by decide +kernel) rfl
theorem q1319 : Cond.selects "PinEngines" ({ cls := "PinEngines", name := "isEnabled", desc := "(I)Z" } : Jvm.MethodName) ({ cls := "PinEngines", name := "isEnabled", desc := "(I)Z" } : Jvm.MethodName) ∈ tb := tb_at 1319 (by decide +kernel) rfl
theorem q1320 : Cond.code ({ cls := "PinEngines", name := "isEnabled", desc := "(I)Z" } : Jvm.MethodName) prog_1_method_20_code (2 : Nat) (Option.some Jvm.ClassFile.FieldType.boolean) ∈ tb := tb_at 1320 (by decide +kernel) rfl
theorem q1321 : Cond.methodLink "PinEnginesLaw" (199 : Nat) ({ cls := "PinEnginesLaw", name := "queueSize", desc := "(LPinEngines;IZ[J)I" } : Jvm.MethodName) ∈ tb := tb_at 1321 (by decide +kernel) rfl
theorem q1322 : Cond.static ({ cls := "PinEnginesLaw", name := "queueSize", desc := "(LPinEngines;IZ[J)I" } : Jvm.MethodName) ∈ tb := tb_at 1322 (by decide +kernel) rfl
theorem q1324 : Cond.methodLink "PinEnginesLaw" (55 : Nat) ({ cls := "PinEngines", name := "queueSize", desc := "(IZ)I" } : Jvm.MethodName) ∈ tb := tb_at 1324 (by decide +kernel) rfl
theorem q1325 : Cond.instanceMethod ({ cls := "PinEngines", name := "queueSize", desc := "(IZ)I" } : Jvm.MethodName) ∈ tb := tb_at 1325 (by decide +kernel) rfl
theorem q1326 : Cond.selects "PinEngines" ({ cls := "PinEngines", name := "queueSize", desc := "(IZ)I" } : Jvm.MethodName) ({ cls := "PinEngines", name := "queueSize", desc := "(IZ)I" } : Jvm.MethodName) ∈ tb := tb_at 1326 (by decide +kernel) rfl
theorem q1327 : Cond.code ({ cls := "PinEngines", name := "queueSize", desc := "(IZ)I" } : Jvm.MethodName) prog_1_method_21_code (3 : Nat) (Option.some Jvm.ClassFile.FieldType.int) ∈ tb := tb_at 1327 (by decide +kernel) rfl
theorem q1328 : Cond.methodLink "PinEngines" (198 : Nat) ({ cls := "PinEngines", name := "existingQueue", desc := "(IZ)LPinEngines$Queue;" } : Jvm.MethodName) ∈ tb := tb_at 1328 (by decide +kernel) rfl
theorem q1330 : Cond.instanceMethod ({ cls := "PinEngines", name := "existingQueue", desc := "(IZ)LPinEngines$Queue;" } : Jvm.MethodName) ∈ tb := tb_at 1330 (by decide +kernel) rfl
theorem q1331 : Cond.code ({ cls := "PinEngines", name := "existingQueue", desc := "(IZ)LPinEngines$Queue;" } : Jvm.MethodName) prog_1_method_52_code (4 : Nat) (Option.some (Jvm.ClassFile.FieldType.object "PinEngines$Queue")) ∈ tb := tb_at 1331 (by decide +kernel) rfl
theorem q1332 : Cond.methodLink "PinEnginesLaw" (203 : Nat) ({ cls := "PinEnginesLaw", name := "queued", desc := "(LPinEngines;IZI[J)I" } : Jvm.MethodName) ∈ tb := tb_at 1332 (by decide +kernel) rfl
theorem q1333 : Cond.static ({ cls := "PinEnginesLaw", name := "queued", desc := "(LPinEngines;IZI[J)I" } : Jvm.MethodName) ∈ tb := tb_at 1333 (by decide +kernel) rfl
theorem q1335 : Cond.methodLink "PinEnginesLaw" (59 : Nat) ({ cls := "PinEngines", name := "queued", desc := "(IZI)J" } : Jvm.MethodName) ∈ tb := tb_at 1335 (by decide +kernel) rfl
theorem q1336 : Cond.instanceMethod ({ cls := "PinEngines", name := "queued", desc := "(IZI)J" } : Jvm.MethodName) ∈ tb := tb_at 1336 (by decide +kernel) rfl
theorem q1337 : Cond.selects "PinEngines" ({ cls := "PinEngines", name := "queued", desc := "(IZI)J" } : Jvm.MethodName) ({ cls := "PinEngines", name := "queued", desc := "(IZI)J" } : Jvm.MethodName) ∈ tb := tb_at 1337 (by decide +kernel) rfl
theorem q1338 : Cond.code ({ cls := "PinEngines", name := "queued", desc := "(IZI)J" } : Jvm.MethodName) prog_1_method_22_code (5 : Nat) (Option.some Jvm.ClassFile.FieldType.long) ∈ tb := tb_at 1338 (by decide +kernel) rfl
theorem q1339 : Cond.methodLink "PinEngines" (207 : Nat) ({ cls := "PinEngines$Queue", name := "wordAt", desc := "(I)I" } : Jvm.MethodName) ∈ tb := tb_at 1339 (by decide +kernel) rfl
theorem q1340 : Cond.instanceMethod ({ cls := "PinEngines$Queue", name := "wordAt", desc := "(I)I" } : Jvm.MethodName) ∈ tb := tb_at 1340 (by decide +kernel) rfl
theorem q1341 : Cond.selects "PinEngines$Queue" ({ cls := "PinEngines$Queue", name := "wordAt", desc := "(I)I" } : Jvm.MethodName) ({ cls := "PinEngines$Queue", name := "wordAt", desc := "(I)I" } : Jvm.MethodName) ∈ tb := tb_at 1341 (by decide +kernel) rfl
theorem q1342 : Cond.code ({ cls := "PinEngines$Queue", name := "wordAt", desc := "(I)I" } : Jvm.MethodName) prog_9_method_7_code (2 : Nat) (Option.some Jvm.ClassFile.FieldType.int) ∈ tb := tb_at 1342 (by decide +kernel) rfl
theorem q1343 : Cond.methodLink "PinEngines" (211 : Nat) ({ cls := "PinEngines", name := "unsigned", desc := "(I)J" } : Jvm.MethodName) ∈ tb := tb_at 1343 (by decide +kernel) rfl
theorem q1344 : Cond.static ({ cls := "PinEngines", name := "unsigned", desc := "(I)J" } : Jvm.MethodName) ∈ tb := tb_at 1344 (by decide +kernel) rfl
theorem q1345 : Cond.code ({ cls := "PinEngines", name := "unsigned", desc := "(I)J" } : Jvm.MethodName) prog_1_method_58_code (1 : Nat) (Option.some Jvm.ClassFile.FieldType.long) ∈ tb := tb_at 1345 (by decide +kernel) rfl
theorem q1346 : Cond.constantLong "PinEngines" (354 : Nat) (4294967295 : Int64) ∈ tb := tb_at 1346 (by decide +kernel) rfl
theorem q1347 : Cond.constantLong "PinEngines" (215 : Nat) (-1 : Int64) ∈ tb := tb_at 1347 (by decide +kernel) rfl
theorem q1348 : Cond.methodLink "PinEnginesLaw" (207 : Nat) ({ cls := "PinEnginesLaw", name := "count", desc := "(LPinEngines;II[J)I" } : Jvm.MethodName) ∈ tb := tb_at 1348 (by decide +kernel) rfl
theorem q1349 : Cond.static ({ cls := "PinEnginesLaw", name := "count", desc := "(LPinEngines;II[J)I" } : Jvm.MethodName) ∈ tb := tb_at 1349 (by decide +kernel) rfl
theorem q1351 : Cond.methodLink "PinEnginesLaw" (63 : Nat) ({ cls := "PinEngines", name := "count", desc := "(II)I" } : Jvm.MethodName) ∈ tb := tb_at 1351 (by decide +kernel) rfl
theorem q1352 : Cond.instanceMethod ({ cls := "PinEngines", name := "count", desc := "(II)I" } : Jvm.MethodName) ∈ tb := tb_at 1352 (by decide +kernel) rfl
theorem q1353 : Cond.selects "PinEngines" ({ cls := "PinEngines", name := "count", desc := "(II)I" } : Jvm.MethodName) ({ cls := "PinEngines", name := "count", desc := "(II)I" } : Jvm.MethodName) ∈ tb := tb_at 1353 (by decide +kernel) rfl
theorem q1354 : Cond.code ({ cls := "PinEngines", name := "count", desc := "(II)I" } : Jvm.MethodName) prog_1_method_23_code (4 : Nat) (Option.some Jvm.ClassFile.FieldType.int) ∈ tb := tb_at 1354 (by decide +kernel) rfl
theorem q1355 : Cond.methodLink "PinEnginesLaw" (210 : Nat) ({ cls := "PinEnginesLaw", name := "levelAt", desc := "(LPinEngines;II[J)I" } : Jvm.MethodName) ∈ tb := tb_at 1355 (by decide +kernel) rfl
theorem q1356 : Cond.static ({ cls := "PinEnginesLaw", name := "levelAt", desc := "(LPinEngines;II[J)I" } : Jvm.MethodName) ∈ tb := tb_at 1356 (by decide +kernel) rfl
theorem q1358 : Cond.methodLink "PinEnginesLaw" (66 : Nat) ({ cls := "PinEngines", name := "levelAt", desc := "(II)I" } : Jvm.MethodName) ∈ tb := tb_at 1358 (by decide +kernel) rfl
theorem q1359 : Cond.instanceMethod ({ cls := "PinEngines", name := "levelAt", desc := "(II)I" } : Jvm.MethodName) ∈ tb := tb_at 1359 (by decide +kernel) rfl
theorem q1360 : Cond.selects "PinEngines" ({ cls := "PinEngines", name := "levelAt", desc := "(II)I" } : Jvm.MethodName) ({ cls := "PinEngines", name := "levelAt", desc := "(II)I" } : Jvm.MethodName) ∈ tb := tb_at 1360 (by decide +kernel) rfl
theorem q1361 : Cond.code ({ cls := "PinEngines", name := "levelAt", desc := "(II)I" } : Jvm.MethodName) prog_1_method_24_code (4 : Nat) (Option.some Jvm.ClassFile.FieldType.int) ∈ tb := tb_at 1361 (by decide +kernel) rfl
theorem q1362 : Cond.methodLink "PinEngines" (220 : Nat) ({ cls := "PinEngines$Machine", name := "levelsAfter", desc := "(I)I" } : Jvm.MethodName) ∈ tb := tb_at 1362 (by decide +kernel) rfl
theorem q1363 : Cond.instanceMethod ({ cls := "PinEngines$Machine", name := "levelsAfter", desc := "(I)I" } : Jvm.MethodName) ∈ tb := tb_at 1363 (by decide +kernel) rfl
theorem q1364 : Cond.selects "PinEngines$Machine" ({ cls := "PinEngines$Machine", name := "levelsAfter", desc := "(I)I" } : Jvm.MethodName) ({ cls := "PinEngines$Machine", name := "levelsAfter", desc := "(I)I" } : Jvm.MethodName) ∈ tb := tb_at 1364 (by decide +kernel) rfl
theorem q1365 : Cond.code ({ cls := "PinEngines$Machine", name := "levelsAfter", desc := "(I)I" } : Jvm.MethodName) prog_5_method_11_code (2 : Nat) (Option.some Jvm.ClassFile.FieldType.int) ∈ tb := tb_at 1365 (by decide +kernel) rfl
theorem q1366 : Cond.methodLink "PinEnginesLaw" (213 : Nat) ({ cls := "PinEnginesLaw", name := "edges", desc := "(LPinEngines;I[J)I" } : Jvm.MethodName) ∈ tb := tb_at 1366 (by decide +kernel) rfl
theorem q1367 : Cond.static ({ cls := "PinEnginesLaw", name := "edges", desc := "(LPinEngines;I[J)I" } : Jvm.MethodName) ∈ tb := tb_at 1367 (by decide +kernel) rfl
theorem q1369 : Cond.methodLink "PinEnginesLaw" (69 : Nat) ({ cls := "PinEngines", name := "edges", desc := "(I)I" } : Jvm.MethodName) ∈ tb := tb_at 1369 (by decide +kernel) rfl
theorem q1370 : Cond.instanceMethod ({ cls := "PinEngines", name := "edges", desc := "(I)I" } : Jvm.MethodName) ∈ tb := tb_at 1370 (by decide +kernel) rfl
theorem q1371 : Cond.selects "PinEngines" ({ cls := "PinEngines", name := "edges", desc := "(I)I" } : Jvm.MethodName) ({ cls := "PinEngines", name := "edges", desc := "(I)I" } : Jvm.MethodName) ∈ tb := tb_at 1371 (by decide +kernel) rfl
theorem q1372 : Cond.code ({ cls := "PinEngines", name := "edges", desc := "(I)I" } : Jvm.MethodName) prog_1_method_25_code (2 : Nat) (Option.some Jvm.ClassFile.FieldType.int) ∈ tb := tb_at 1372 (by decide +kernel) rfl
theorem q1373 : Cond.methodLink "PinEnginesLaw" (216 : Nat) ({ cls := "PinEnginesLaw", name := "highTime", desc := "(LPinEngines;I[J)I" } : Jvm.MethodName) ∈ tb := tb_at 1373 (by decide +kernel) rfl
theorem q1374 : Cond.static ({ cls := "PinEnginesLaw", name := "highTime", desc := "(LPinEngines;I[J)I" } : Jvm.MethodName) ∈ tb := tb_at 1374 (by decide +kernel) rfl
theorem q1376 : Cond.methodLink "PinEnginesLaw" (72 : Nat) ({ cls := "PinEngines", name := "highTime", desc := "(I)I" } : Jvm.MethodName) ∈ tb := tb_at 1376 (by decide +kernel) rfl
theorem q1377 : Cond.instanceMethod ({ cls := "PinEngines", name := "highTime", desc := "(I)I" } : Jvm.MethodName) ∈ tb := tb_at 1377 (by decide +kernel) rfl
theorem q1378 : Cond.selects "PinEngines" ({ cls := "PinEngines", name := "highTime", desc := "(I)I" } : Jvm.MethodName) ({ cls := "PinEngines", name := "highTime", desc := "(I)I" } : Jvm.MethodName) ∈ tb := tb_at 1378 (by decide +kernel) rfl
theorem q1379 : Cond.code ({ cls := "PinEngines", name := "highTime", desc := "(I)I" } : Jvm.MethodName) prog_1_method_26_code (2 : Nat) (Option.some Jvm.ClassFile.FieldType.int) ∈ tb := tb_at 1379 (by decide +kernel) rfl
theorem q1380 : Cond.methodLink "PinEngines" (226 : Nat) ({ cls := "PinEngines$Machine", name := "highCycles", desc := "(I)I" } : Jvm.MethodName) ∈ tb := tb_at 1380 (by decide +kernel) rfl
theorem q1381 : Cond.instanceMethod ({ cls := "PinEngines$Machine", name := "highCycles", desc := "(I)I" } : Jvm.MethodName) ∈ tb := tb_at 1381 (by decide +kernel) rfl
theorem q1382 : Cond.selects "PinEngines$Machine" ({ cls := "PinEngines$Machine", name := "highCycles", desc := "(I)I" } : Jvm.MethodName) ({ cls := "PinEngines$Machine", name := "highCycles", desc := "(I)I" } : Jvm.MethodName) ∈ tb := tb_at 1382 (by decide +kernel) rfl
theorem q1383 : Cond.code ({ cls := "PinEngines$Machine", name := "highCycles", desc := "(I)I" } : Jvm.MethodName) prog_5_method_12_code (3 : Nat) (Option.some Jvm.ClassFile.FieldType.int) ∈ tb := tb_at 1383 (by decide +kernel) rfl
theorem q1384 : Cond.methodLink "PinEnginesLaw" (219 : Nat) ({ cls := "PinEnginesLaw", name := "put", desc := "(LPinEngines;II[J)I" } : Jvm.MethodName) ∈ tb := tb_at 1384 (by decide +kernel) rfl
theorem q1385 : Cond.static ({ cls := "PinEnginesLaw", name := "put", desc := "(LPinEngines;II[J)I" } : Jvm.MethodName) ∈ tb := tb_at 1385 (by decide +kernel) rfl
theorem q1387 : Cond.methodLink "PinEnginesLaw" (75 : Nat) ({ cls := "PinEngines", name := "put", desc := "(II)I" } : Jvm.MethodName) ∈ tb := tb_at 1387 (by decide +kernel) rfl
theorem q1388 : Cond.instanceMethod ({ cls := "PinEngines", name := "put", desc := "(II)I" } : Jvm.MethodName) ∈ tb := tb_at 1388 (by decide +kernel) rfl
theorem q1389 : Cond.selects "PinEngines" ({ cls := "PinEngines", name := "put", desc := "(II)I" } : Jvm.MethodName) ({ cls := "PinEngines", name := "put", desc := "(II)I" } : Jvm.MethodName) ∈ tb := tb_at 1389 (by decide +kernel) rfl
theorem q1390 : Cond.code ({ cls := "PinEngines", name := "put", desc := "(II)I" } : Jvm.MethodName) prog_1_method_27_code (4 : Nat) (Option.some Jvm.ClassFile.FieldType.int) ∈ tb := tb_at 1390 (by decide +kernel) rfl
theorem q1391 : Cond.methodLink "PinEngines" (229 : Nat) ({ cls := "PinEngines$Queue", name := "isFull", desc := "()Z" } : Jvm.MethodName) ∈ tb := tb_at 1391 (by decide +kernel) rfl
theorem q1392 : Cond.instanceMethod ({ cls := "PinEngines$Queue", name := "isFull", desc := "()Z" } : Jvm.MethodName) ∈ tb := tb_at 1392 (by decide +kernel) rfl
theorem q1393 : Cond.selects "PinEngines$Queue" ({ cls := "PinEngines$Queue", name := "isFull", desc := "()Z" } : Jvm.MethodName) ({ cls := "PinEngines$Queue", name := "isFull", desc := "()Z" } : Jvm.MethodName) ∈ tb := tb_at 1393 (by decide +kernel) rfl
theorem q1394 : Cond.code ({ cls := "PinEngines$Queue", name := "isFull", desc := "()Z" } : Jvm.MethodName) prog_9_method_4_code (1 : Nat) (Option.some Jvm.ClassFile.FieldType.boolean) ∈ tb := tb_at 1394 (by decide +kernel) rfl
theorem q1395 : Cond.methodLink "PinEngines" (233 : Nat) ({ cls := "PinEngines", name := "remember", desc := "()V" } : Jvm.MethodName) ∈ tb := tb_at 1395 (by decide +kernel) rfl
theorem q1397 : Cond.instanceMethod ({ cls := "PinEngines", name := "remember", desc := "()V" } : Jvm.MethodName) ∈ tb := tb_at 1397 (by decide +kernel) rfl
theorem q1398 : Cond.code ({ cls := "PinEngines", name := "remember", desc := "()V" } : Jvm.MethodName) prog_1_method_48_code (1 : Nat) (Option.none : Option Jvm.ClassFile.FieldType) ∈ tb := tb_at 1398 (by decide +kernel) rfl
theorem q1399 : Cond.methodLink "PinEngines" (289 : Nat) ({ cls := "java/lang/Math", name := "min", desc := "(II)I" } : Jvm.MethodName) ∈ tb := tb_at 1399 (by decide +kernel) rfl
theorem q1400 : Cond.methodLink "PinEngines" (236 : Nat) ({ cls := "PinEngines$Queue", name := "append", desc := "(I)V" } : Jvm.MethodName) ∈ tb := tb_at 1400 (by decide +kernel) rfl
theorem q1401 : Cond.instanceMethod ({ cls := "PinEngines$Queue", name := "append", desc := "(I)V" } : Jvm.MethodName) ∈ tb := tb_at 1401 (by decide +kernel) rfl
theorem q1402 : Cond.selects "PinEngines$Queue" ({ cls := "PinEngines$Queue", name := "append", desc := "(I)V" } : Jvm.MethodName) ({ cls := "PinEngines$Queue", name := "append", desc := "(I)V" } : Jvm.MethodName) ∈ tb := tb_at 1402 (by decide +kernel) rfl
theorem q1403 : Cond.code ({ cls := "PinEngines$Queue", name := "append", desc := "(I)V" } : Jvm.MethodName) prog_9_method_5_code (2 : Nat) (Option.none : Option Jvm.ClassFile.FieldType) ∈ tb := tb_at 1403 (by decide +kernel) rfl
theorem q1404 : Cond.methodLink "PinEngines$Queue" (40 : Nat) ({ cls := "PinEngines$Queue", name := "isFull", desc := "()Z" } : Jvm.MethodName) ∈ tb := tb_at 1404 (by decide +kernel) rfl
theorem q1405 : Cond.methodLink "PinEnginesLaw" (222 : Nat) ({ cls := "PinEnginesLaw", name := "take", desc := "(LPinEngines;I[J)I" } : Jvm.MethodName) ∈ tb := tb_at 1405 (by decide +kernel) rfl
theorem q1406 : Cond.static ({ cls := "PinEnginesLaw", name := "take", desc := "(LPinEngines;I[J)I" } : Jvm.MethodName) ∈ tb := tb_at 1406 (by decide +kernel) rfl
theorem q1408 : Cond.methodLink "PinEnginesLaw" (78 : Nat) ({ cls := "PinEngines", name := "take", desc := "(I)J" } : Jvm.MethodName) ∈ tb := tb_at 1408 (by decide +kernel) rfl
theorem q1409 : Cond.instanceMethod ({ cls := "PinEngines", name := "take", desc := "(I)J" } : Jvm.MethodName) ∈ tb := tb_at 1409 (by decide +kernel) rfl
theorem q1410 : Cond.selects "PinEngines" ({ cls := "PinEngines", name := "take", desc := "(I)J" } : Jvm.MethodName) ({ cls := "PinEngines", name := "take", desc := "(I)J" } : Jvm.MethodName) ∈ tb := tb_at 1410 (by decide +kernel) rfl
theorem q1411 : Cond.code ({ cls := "PinEngines", name := "take", desc := "(I)J" } : Jvm.MethodName) prog_1_method_28_code (3 : Nat) (Option.some Jvm.ClassFile.FieldType.long) ∈ tb := tb_at 1411 (by decide +kernel) rfl
theorem q1412 : Cond.constantLong "PinEngines" (239 : Nat) (-2 : Int64) ∈ tb := tb_at 1412 (by decide +kernel) rfl
theorem q1413 : Cond.methodLink "PinEngines" (241 : Nat) ({ cls := "PinEngines$Queue", name := "removeFirst", desc := "()I" } : Jvm.MethodName) ∈ tb := tb_at 1413 (by decide +kernel) rfl
theorem q1414 : Cond.instanceMethod ({ cls := "PinEngines$Queue", name := "removeFirst", desc := "()I" } : Jvm.MethodName) ∈ tb := tb_at 1414 (by decide +kernel) rfl
theorem q1415 : Cond.selects "PinEngines$Queue" ({ cls := "PinEngines$Queue", name := "removeFirst", desc := "()I" } : Jvm.MethodName) ({ cls := "PinEngines$Queue", name := "removeFirst", desc := "()I" } : Jvm.MethodName) ∈ tb := tb_at 1415 (by decide +kernel) rfl
theorem q1416 : Cond.code ({ cls := "PinEngines$Queue", name := "removeFirst", desc := "()I" } : Jvm.MethodName) prog_9_method_6_code (2 : Nat) (Option.some Jvm.ClassFile.FieldType.int) ∈ tb := tb_at 1416 (by decide +kernel) rfl
theorem q1417 : Cond.methodLink "PinEnginesLaw" (225 : Nat) ({ cls := "PinEnginesLaw", name := "enable", desc := "(LPinEngines;IZ[J)I" } : Jvm.MethodName) ∈ tb := tb_at 1417 (by decide +kernel) rfl
theorem q1418 : Cond.static ({ cls := "PinEnginesLaw", name := "enable", desc := "(LPinEngines;IZ[J)I" } : Jvm.MethodName) ∈ tb := tb_at 1418 (by decide +kernel) rfl
theorem q1420 : Cond.methodLink "PinEnginesLaw" (82 : Nat) ({ cls := "PinEngines", name := "enable", desc := "(IZ)Z" } : Jvm.MethodName) ∈ tb := tb_at 1420 (by decide +kernel) rfl
theorem q1421 : Cond.instanceMethod ({ cls := "PinEngines", name := "enable", desc := "(IZ)Z" } : Jvm.MethodName) ∈ tb := tb_at 1421 (by decide +kernel) rfl
theorem q1422 : Cond.selects "PinEngines" ({ cls := "PinEngines", name := "enable", desc := "(IZ)Z" } : Jvm.MethodName) ({ cls := "PinEngines", name := "enable", desc := "(IZ)Z" } : Jvm.MethodName) ∈ tb := tb_at 1422 (by decide +kernel) rfl
theorem q1423 : Cond.code ({ cls := "PinEngines", name := "enable", desc := "(IZ)Z" } : Jvm.MethodName) prog_1_method_29_code (5 : Nat) (Option.some Jvm.ClassFile.FieldType.boolean) ∈ tb := tb_at 1423 (by decide +kernel) rfl
theorem q1424 : Cond.methodLink "PinEnginesLaw" (228 : Nat) ({ cls := "PinEnginesLaw", name := "restart", desc := "(LPinEngines;I[J)I" } : Jvm.MethodName) ∈ tb := tb_at 1424 (by decide +kernel) rfl
theorem q1425 : Cond.static ({ cls := "PinEnginesLaw", name := "restart", desc := "(LPinEngines;I[J)I" } : Jvm.MethodName) ∈ tb := tb_at 1425 (by decide +kernel) rfl
theorem q1427 : Cond.methodLink "PinEnginesLaw" (86 : Nat) ({ cls := "PinEngines", name := "restart", desc := "(I)I" } : Jvm.MethodName) ∈ tb := tb_at 1427 (by decide +kernel) rfl
theorem q1428 : Cond.instanceMethod ({ cls := "PinEngines", name := "restart", desc := "(I)I" } : Jvm.MethodName) ∈ tb := tb_at 1428 (by decide +kernel) rfl
theorem q1429 : Cond.selects "PinEngines" ({ cls := "PinEngines", name := "restart", desc := "(I)I" } : Jvm.MethodName) ({ cls := "PinEngines", name := "restart", desc := "(I)I" } : Jvm.MethodName) ∈ tb := tb_at 1429 (by decide +kernel) rfl
theorem q1430 : Cond.code ({ cls := "PinEngines", name := "restart", desc := "(I)I" } : Jvm.MethodName) prog_1_method_30_code (4 : Nat) (Option.some Jvm.ClassFile.FieldType.int) ∈ tb := tb_at 1430 (by decide +kernel) rfl
theorem q1431 : Cond.methodLink "PinEngines" (248 : Nat) ({ cls := "PinEngines$Engine", name := "reset", desc := "(LPinEngines$Setup;)V" } : Jvm.MethodName) ∈ tb := tb_at 1431 (by decide +kernel) rfl
theorem q1432 : Cond.methodLink "PinEnginesLaw" (231 : Nat) ({ cls := "PinEnginesLaw", name := "drive", desc := "(LPinEngines;II[J)I" } : Jvm.MethodName) ∈ tb := tb_at 1432 (by decide +kernel) rfl
theorem q1433 : Cond.static ({ cls := "PinEnginesLaw", name := "drive", desc := "(LPinEngines;II[J)I" } : Jvm.MethodName) ∈ tb := tb_at 1433 (by decide +kernel) rfl
theorem q1435 : Cond.methodLink "PinEnginesLaw" (89 : Nat) ({ cls := "PinEngines", name := "drive", desc := "(II)I" } : Jvm.MethodName) ∈ tb := tb_at 1435 (by decide +kernel) rfl
theorem q1436 : Cond.instanceMethod ({ cls := "PinEngines", name := "drive", desc := "(II)I" } : Jvm.MethodName) ∈ tb := tb_at 1436 (by decide +kernel) rfl
theorem q1437 : Cond.selects "PinEngines" ({ cls := "PinEngines", name := "drive", desc := "(II)I" } : Jvm.MethodName) ({ cls := "PinEngines", name := "drive", desc := "(II)I" } : Jvm.MethodName) ∈ tb := tb_at 1437 (by decide +kernel) rfl
theorem q1438 : Cond.code ({ cls := "PinEngines", name := "drive", desc := "(II)I" } : Jvm.MethodName) prog_1_method_31_code (3 : Nat) (Option.some Jvm.ClassFile.FieldType.int) ∈ tb := tb_at 1438 (by decide +kernel) rfl
theorem q1439 : Cond.methodLink "PinEngines" (252 : Nat) ({ cls := "PinEngines", name := "checkLevel", desc := "(I)V" } : Jvm.MethodName) ∈ tb := tb_at 1439 (by decide +kernel) rfl
theorem q1440 : Cond.static ({ cls := "PinEngines", name := "checkLevel", desc := "(I)V" } : Jvm.MethodName) ∈ tb := tb_at 1440 (by decide +kernel) rfl
theorem q1441 : Cond.code ({ cls := "PinEngines", name := "checkLevel", desc := "(I)V" } : Jvm.MethodName) prog_1_method_56_code (1 : Nat) (Option.none : Option Jvm.ClassFile.FieldType) ∈ tb := tb_at 1441 (by decide +kernel) rfl
theorem q1442 : Cond.methodLink "PinEngines" (255 : Nat) ({ cls := "PinEngines$Machine", name := "driveOutside", desc := "(II)V" } : Jvm.MethodName) ∈ tb := tb_at 1442 (by decide +kernel) rfl
theorem q1443 : Cond.instanceMethod ({ cls := "PinEngines$Machine", name := "driveOutside", desc := "(II)V" } : Jvm.MethodName) ∈ tb := tb_at 1443 (by decide +kernel) rfl
theorem q1444 : Cond.selects "PinEngines$Machine" ({ cls := "PinEngines$Machine", name := "driveOutside", desc := "(II)V" } : Jvm.MethodName) ({ cls := "PinEngines$Machine", name := "driveOutside", desc := "(II)V" } : Jvm.MethodName) ∈ tb := tb_at 1444 (by decide +kernel) rfl
theorem q1445 : Cond.code ({ cls := "PinEngines$Machine", name := "driveOutside", desc := "(II)V" } : Jvm.MethodName) prog_5_method_7_code (3 : Nat) (Option.none : Option Jvm.ClassFile.FieldType) ∈ tb := tb_at 1445 (by decide +kernel) rfl
theorem q1446 : Cond.methodLink "PinEnginesLaw" (234 : Nat) ({ cls := "PinEnginesLaw", name := "schedule", desc := "(LPinEngines;III[J)I" } : Jvm.MethodName) ∈ tb := tb_at 1446 (by decide +kernel) rfl
theorem q1447 : Cond.static ({ cls := "PinEnginesLaw", name := "schedule", desc := "(LPinEngines;III[J)I" } : Jvm.MethodName) ∈ tb := tb_at 1447 (by decide +kernel) rfl
theorem q1449 : Cond.methodLink "PinEnginesLaw" (92 : Nat) ({ cls := "PinEngines", name := "schedule", desc := "(III)I" } : Jvm.MethodName) ∈ tb := tb_at 1449 (by decide +kernel) rfl
theorem q1450 : Cond.instanceMethod ({ cls := "PinEngines", name := "schedule", desc := "(III)I" } : Jvm.MethodName) ∈ tb := tb_at 1450 (by decide +kernel) rfl
theorem q1451 : Cond.selects "PinEngines" ({ cls := "PinEngines", name := "schedule", desc := "(III)I" } : Jvm.MethodName) ({ cls := "PinEngines", name := "schedule", desc := "(III)I" } : Jvm.MethodName) ∈ tb := tb_at 1451 (by decide +kernel) rfl
theorem q1452 : Cond.code ({ cls := "PinEngines", name := "schedule", desc := "(III)I" } : Jvm.MethodName) prog_1_method_32_code (4 : Nat) (Option.some Jvm.ClassFile.FieldType.int) ∈ tb := tb_at 1452 (by decide +kernel) rfl
theorem q1453 : Cond.constant "PinEngines" (259 : Nat) (1000000 : Int32) ∈ tb := tb_at 1453 (by decide +kernel) rfl
theorem q1454 : Cond.methodLink "PinEngines" (263 : Nat) ({ cls := "PinEngines$Machine", name := "addScheduled", desc := "(III)V" } : Jvm.MethodName) ∈ tb := tb_at 1454 (by decide +kernel) rfl
theorem q1455 : Cond.instanceMethod ({ cls := "PinEngines$Machine", name := "addScheduled", desc := "(III)V" } : Jvm.MethodName) ∈ tb := tb_at 1455 (by decide +kernel) rfl
theorem q1456 : Cond.selects "PinEngines$Machine" ({ cls := "PinEngines$Machine", name := "addScheduled", desc := "(III)V" } : Jvm.MethodName) ({ cls := "PinEngines$Machine", name := "addScheduled", desc := "(III)V" } : Jvm.MethodName) ∈ tb := tb_at 1456 (by decide +kernel) rfl
theorem q1457 : Cond.code ({ cls := "PinEngines$Machine", name := "addScheduled", desc := "(III)V" } : Jvm.MethodName) prog_5_method_8_code (4 : Nat) (Option.none : Option Jvm.ClassFile.FieldType) ∈ tb := tb_at 1457 (by decide +kernel) rfl
theorem q1458 : Cond.methodLink "PinEnginesLaw" (238 : Nat) ({ cls := "PinEnginesLaw", name := "poke", desc := "(LPinEngines;II[J)I" } : Jvm.MethodName) ∈ tb := tb_at 1458 (by decide +kernel) rfl
theorem q1459 : Cond.static ({ cls := "PinEnginesLaw", name := "poke", desc := "(LPinEngines;II[J)I" } : Jvm.MethodName) ∈ tb := tb_at 1459 (by decide +kernel) rfl
theorem q1461 : Cond.methodLink "PinEnginesLaw" (96 : Nat) ({ cls := "PinEngines", name := "poke", desc := "(II)I" } : Jvm.MethodName) ∈ tb := tb_at 1461 (by decide +kernel) rfl
theorem q1462 : Cond.instanceMethod ({ cls := "PinEngines", name := "poke", desc := "(II)I" } : Jvm.MethodName) ∈ tb := tb_at 1462 (by decide +kernel) rfl
theorem q1463 : Cond.selects "PinEngines" ({ cls := "PinEngines", name := "poke", desc := "(II)I" } : Jvm.MethodName) ({ cls := "PinEngines", name := "poke", desc := "(II)I" } : Jvm.MethodName) ∈ tb := tb_at 1463 (by decide +kernel) rfl
theorem q1464 : Cond.code ({ cls := "PinEngines", name := "poke", desc := "(II)I" } : Jvm.MethodName) prog_1_method_33_code (4 : Nat) (Option.some Jvm.ClassFile.FieldType.int) ∈ tb := tb_at 1464 (by decide +kernel) rfl
theorem q1465 : Cond.methodLink "PinEnginesLaw" (241 : Nat) ({ cls := "PinEnginesLaw", name := "run", desc := "(LPinEngines;I[J)I" } : Jvm.MethodName) ∈ tb := tb_at 1465 (by decide +kernel) rfl
theorem q1466 : Cond.static ({ cls := "PinEnginesLaw", name := "run", desc := "(LPinEngines;I[J)I" } : Jvm.MethodName) ∈ tb := tb_at 1466 (by decide +kernel) rfl
theorem q1468 : Cond.methodLink "PinEnginesLaw" (99 : Nat) ({ cls := "PinEngines", name := "run", desc := "(I)I" } : Jvm.MethodName) ∈ tb := tb_at 1468 (by decide +kernel) rfl
theorem q1469 : Cond.instanceMethod ({ cls := "PinEngines", name := "run", desc := "(I)I" } : Jvm.MethodName) ∈ tb := tb_at 1469 (by decide +kernel) rfl
theorem q1470 : Cond.selects "PinEngines" ({ cls := "PinEngines", name := "run", desc := "(I)I" } : Jvm.MethodName) ({ cls := "PinEngines", name := "run", desc := "(I)I" } : Jvm.MethodName) ∈ tb := tb_at 1470 (by decide +kernel) rfl
theorem q1471 : Cond.code ({ cls := "PinEngines", name := "run", desc := "(I)I" } : Jvm.MethodName) prog_1_method_34_code (4 : Nat) (Option.some Jvm.ClassFile.FieldType.int) ∈ tb := tb_at 1471 (by decide +kernel) rfl
theorem q1472 : Cond.methodLink "PinEngines" (267 : Nat) ({ cls := "PinEngines$Simulator", name := "simulateCycle", desc := "(LPinEngines$Machine;)I" } : Jvm.MethodName) ∈ tb := tb_at 1472 (by decide +kernel) rfl
theorem q1473 : Cond.instanceMethod ({ cls := "PinEngines$Simulator", name := "simulateCycle", desc := "(LPinEngines$Machine;)I" } : Jvm.MethodName) ∈ tb := tb_at 1473 (by decide +kernel) rfl
theorem q1474 : Cond.selects "PinEngines$Simulator" ({ cls := "PinEngines$Simulator", name := "simulateCycle", desc := "(LPinEngines$Machine;)I" } : Jvm.MethodName) ({ cls := "PinEngines$Simulator", name := "simulateCycle", desc := "(LPinEngines$Machine;)I" } : Jvm.MethodName) ∈ tb := tb_at 1474 (by decide +kernel) rfl
theorem q1475 : Cond.code ({ cls := "PinEngines$Simulator", name := "simulateCycle", desc := "(LPinEngines$Machine;)I" } : Jvm.MethodName) prog_11_method_2_code (7 : Nat) (Option.some Jvm.ClassFile.FieldType.int) ∈ tb := tb_at 1475 (by decide +kernel) rfl
theorem q1476 : Cond.methodLink "PinEngines$Simulator" (19 : Nat) ({ cls := "PinEngines$Machine", name := "applyScheduled", desc := "()V" } : Jvm.MethodName) ∈ tb := tb_at 1476 (by decide +kernel) rfl
theorem q1477 : Cond.instanceMethod ({ cls := "PinEngines$Machine", name := "applyScheduled", desc := "()V" } : Jvm.MethodName) ∈ tb := tb_at 1477 (by decide +kernel) rfl
theorem q1478 : Cond.selects "PinEngines$Machine" ({ cls := "PinEngines$Machine", name := "applyScheduled", desc := "()V" } : Jvm.MethodName) ({ cls := "PinEngines$Machine", name := "applyScheduled", desc := "()V" } : Jvm.MethodName) ∈ tb := tb_at 1478 (by decide +kernel) rfl
theorem q1479 : Cond.code ({ cls := "PinEngines$Machine", name := "applyScheduled", desc := "()V" } : Jvm.MethodName) prog_5_method_9_code (4 : Nat) (Option.none : Option Jvm.ClassFile.FieldType) ∈ tb := tb_at 1479 (by decide +kernel) rfl
theorem q1480 : Cond.methodLink "PinEngines$Machine" (84 : Nat) ({ cls := "PinEngines$Machine", name := "driveOutside", desc := "(II)V" } : Jvm.MethodName) ∈ tb := tb_at 1480 (by decide +kernel) rfl
theorem q1481 : Cond.methodLink "PinEngines$Simulator" (24 : Nat) ({ cls := "PinEngines$Machine", name := "levels", desc := "()I" } : Jvm.MethodName) ∈ tb := tb_at 1481 (by decide +kernel) rfl
