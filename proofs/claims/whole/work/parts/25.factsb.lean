/-! facts for what is behind -/
theorem q42 : (Cond.selects "PinEngines$QueryReader" ({ cls := "PinEngines$QueryReader", name := "readTest", desc := "(I)I" } : Jvm.MethodName) ({ cls := "PinEngines$QueryReader", name := "readTest", desc := "(I)I" } : Jvm.MethodName)) ∈ tb := tb_at 42 (by decide +kernel) rfl
theorem q43 : (Cond.selects "PinEngines$QueryReader" ({ cls := "PinEngines$QueryReader", name := "readConjunction", desc := "(I)I" } : Jvm.MethodName) ({ cls := "PinEngines$QueryReader", name := "readConjunction", desc := "(I)I" } : Jvm.MethodName)) ∈ tb := tb_at 43 (by decide +kernel) rfl
theorem q44 : (Cond.selects "PinEngines$QueryReader" ({ cls := "PinEngines$QueryReader", name := "readFactor", desc := "(I)I" } : Jvm.MethodName) ({ cls := "PinEngines$QueryReader", name := "readFactor", desc := "(I)I" } : Jvm.MethodName)) ∈ tb := tb_at 44 (by decide +kernel) rfl
theorem q45 : (Cond.selects "PinEngines$QueryReader" ({ cls := "PinEngines$QueryReader", name := "readComparison", desc := "()I" } : Jvm.MethodName) ({ cls := "PinEngines$QueryReader", name := "readComparison", desc := "()I" } : Jvm.MethodName)) ∈ tb := tb_at 45 (by decide +kernel) rfl
theorem q141 : (Cond.selects "PinEnginesModel" ({ cls := "PinEnginesModel", name := "writeOperands", desc := "(II)V" } : Jvm.MethodName) ({ cls := "PinEnginesModel", name := "writeOperands", desc := "(II)V" } : Jvm.MethodName)) ∈ tb := tb_at 141 (by decide +kernel) rfl
theorem q142 : (Cond.selects "PinEnginesModel" ({ cls := "PinEnginesModel", name := "writeIf", desc := "(ZLjava/lang/String;)V" } : Jvm.MethodName) ({ cls := "PinEnginesModel", name := "writeIf", desc := "(ZLjava/lang/String;)V" } : Jvm.MethodName)) ∈ tb := tb_at 142 (by decide +kernel) rfl
theorem q143 : (Cond.selects "PinEnginesModel" ({ cls := "PinEnginesModel", name := "writeNumber", desc := "(I)V" } : Jvm.MethodName) ({ cls := "PinEnginesModel", name := "writeNumber", desc := "(I)V" } : Jvm.MethodName)) ∈ tb := tb_at 143 (by decide +kernel) rfl
theorem q144 : (Cond.selects "PinEnginesModel" ({ cls := "PinEnginesModel", name := "digits", desc := "(I)V" } : Jvm.MethodName) ({ cls := "PinEnginesModel", name := "digits", desc := "(I)V" } : Jvm.MethodName)) ∈ tb := tb_at 144 (by decide +kernel) rfl
theorem q145 : (Cond.selects "PinEnginesModel" ({ cls := "PinEnginesModel", name := "writeAccess", desc := "(I)V" } : Jvm.MethodName) ({ cls := "PinEnginesModel", name := "writeAccess", desc := "(I)V" } : Jvm.MethodName)) ∈ tb := tb_at 145 (by decide +kernel) rfl
theorem q146 : (Cond.selects "PinEnginesModel" ({ cls := "PinEnginesModel", name := "compileTest", desc := "()V" } : Jvm.MethodName) ({ cls := "PinEnginesModel", name := "compileTest", desc := "()V" } : Jvm.MethodName)) ∈ tb := tb_at 146 (by decide +kernel) rfl
theorem q147 : (Cond.selects "PinEnginesModel" ({ cls := "PinEnginesModel", name := "compileConjunction", desc := "()V" } : Jvm.MethodName) ({ cls := "PinEnginesModel", name := "compileConjunction", desc := "()V" } : Jvm.MethodName)) ∈ tb := tb_at 147 (by decide +kernel) rfl
theorem q148 : (Cond.selects "PinEnginesModel" ({ cls := "PinEnginesModel", name := "compileFactor", desc := "()V" } : Jvm.MethodName) ({ cls := "PinEnginesModel", name := "compileFactor", desc := "()V" } : Jvm.MethodName)) ∈ tb := tb_at 148 (by decide +kernel) rfl
theorem q1948 : (Cond.instanceMethod ({ cls := "PinEngines$QueryReader", name := "readTest", desc := "(I)I" } : Jvm.MethodName)) ∈ tb := tb_at 1948 (by decide +kernel) rfl
theorem q1949 : (Cond.code ({ cls := "PinEngines$QueryReader", name := "readTest", desc := "(I)I" } : Jvm.MethodName) prog_8_method_2_code (4 : Nat) (Option.some Jvm.ClassFile.FieldType.int)) ∈ tb := tb_at 1949 (by decide +kernel) rfl
theorem q1950 : (Cond.methodLink "PinEngines$QueryReader" (26 : Nat) ({ cls := "PinEngines$QueryReader", name := "readConjunction", desc := "(I)I" } : Jvm.MethodName)) ∈ tb := tb_at 1950 (by decide +kernel) rfl
theorem q1952 : (Cond.instanceMethod ({ cls := "PinEngines$QueryReader", name := "readConjunction", desc := "(I)I" } : Jvm.MethodName)) ∈ tb := tb_at 1952 (by decide +kernel) rfl
theorem q1953 : (Cond.code ({ cls := "PinEngines$QueryReader", name := "readConjunction", desc := "(I)I" } : Jvm.MethodName) prog_8_method_3_code (4 : Nat) (Option.some Jvm.ClassFile.FieldType.int)) ∈ tb := tb_at 1953 (by decide +kernel) rfl
theorem q1954 : (Cond.methodLink "PinEngines$QueryReader" (42 : Nat) ({ cls := "PinEngines$QueryReader", name := "readFactor", desc := "(I)I" } : Jvm.MethodName)) ∈ tb := tb_at 1954 (by decide +kernel) rfl
theorem q1956 : (Cond.instanceMethod ({ cls := "PinEngines$QueryReader", name := "readFactor", desc := "(I)I" } : Jvm.MethodName)) ∈ tb := tb_at 1956 (by decide +kernel) rfl
theorem q1957 : (Cond.code ({ cls := "PinEngines$QueryReader", name := "readFactor", desc := "(I)I" } : Jvm.MethodName) prog_8_method_4_code (3 : Nat) (Option.some Jvm.ClassFile.FieldType.int)) ∈ tb := tb_at 1957 (by decide +kernel) rfl
theorem q1959 : (Cond.methodLink "PinEngines$QueryReader" (51 : Nat) ({ cls := "PinEngines$Tokens", name := "at", desc := "(LPinEngines$Symbol;)Z" } : Jvm.MethodName)) ∈ tb := tb_at 1959 (by decide +kernel) rfl
theorem q1962 : (Cond.methodLink "PinEngines$QueryReader" (57 : Nat) ({ cls := "PinEngines$QueryReader", name := "readComparison", desc := "()I" } : Jvm.MethodName)) ∈ tb := tb_at 1962 (by decide +kernel) rfl
theorem q1964 : (Cond.instanceMethod ({ cls := "PinEngines$QueryReader", name := "readComparison", desc := "()I" } : Jvm.MethodName)) ∈ tb := tb_at 1964 (by decide +kernel) rfl
theorem q1965 : (Cond.code ({ cls := "PinEngines$QueryReader", name := "readComparison", desc := "()I" } : Jvm.MethodName) prog_8_method_5_code (4 : Nat) (Option.some Jvm.ClassFile.FieldType.int)) ∈ tb := tb_at 1965 (by decide +kernel) rfl
theorem q1989 : (Cond.methodLink "PinEngines$QueryReader" (61 : Nat) ({ cls := "PinEngines$Tokens", name := "fail", desc := "(I)V" } : Jvm.MethodName)) ∈ tb := tb_at 1989 (by decide +kernel) rfl
theorem q1991 : (Cond.methodLink "PinEngines$QueryReader" (65 : Nat) ({ cls := "PinEngines$QueryReader", name := "readTest", desc := "(I)I" } : Jvm.MethodName)) ∈ tb := tb_at 1991 (by decide +kernel) rfl
theorem q1992 : (Cond.fieldLink "PinEngines$QueryReader" (68 : Nat) "PinEngines$Symbol" "CLOSE" "LPinEngines$Symbol;") ∈ tb := tb_at 1992 (by decide +kernel) rfl
theorem q1994 : (Cond.methodLink "PinEngines$QueryReader" (71 : Nat) ({ cls := "PinEngines$Tokens", name := "expect", desc := "(LPinEngines$Symbol;)V" } : Jvm.MethodName)) ∈ tb := tb_at 1994 (by decide +kernel) rfl
theorem q1999 : (Cond.methodLink "PinEngines" (325 : Nat) ({ cls := "PinEngines$Tokens", name := "expectEnd", desc := "()V" } : Jvm.MethodName)) ∈ tb := tb_at 1999 (by decide +kernel) rfl
theorem q2000 : (Cond.instanceMethod ({ cls := "PinEngines$Tokens", name := "expectEnd", desc := "()V" } : Jvm.MethodName)) ∈ tb := tb_at 2000 (by decide +kernel) rfl
theorem q2001 : (Cond.selects "PinEngines$Tokens" ({ cls := "PinEngines$Tokens", name := "expectEnd", desc := "()V" } : Jvm.MethodName) ({ cls := "PinEngines$Tokens", name := "expectEnd", desc := "()V" } : Jvm.MethodName)) ∈ tb := tb_at 2001 (by decide +kernel) rfl
theorem q2002 : (Cond.code ({ cls := "PinEngines$Tokens", name := "expectEnd", desc := "()V" } : Jvm.MethodName) prog_13_method_11_code (1 : Nat) (Option.none : Option Jvm.ClassFile.FieldType)) ∈ tb := tb_at 2002 (by decide +kernel) rfl
theorem q2003 : (Cond.constant "PinEngines" (328 : Nat) (-1000000000 : Int32)) ∈ tb := tb_at 2003 (by decide +kernel) rfl
theorem q2004 : (Cond.fieldLink "PinEngines" (329 : Nat) "PinEngines$Symbol" "MANY" "LPinEngines$Symbol;") ∈ tb := tb_at 2004 (by decide +kernel) rfl
theorem q2006 : (Cond.methodLink "PinEngines" (335 : Nat) ({ cls := "java/lang/Integer", name := "bitCount", desc := "(I)I" } : Jvm.MethodName)) ∈ tb := tb_at 2006 (by decide +kernel) rfl
theorem q2007 : (Cond.static ({ cls := "java/lang/Integer", name := "bitCount", desc := "(I)I" } : Jvm.MethodName)) ∈ tb := tb_at 2007 (by decide +kernel) rfl
theorem q2008 : (Cond.code ({ cls := "java/lang/Integer", name := "bitCount", desc := "(I)I" } : Jvm.MethodName) prog_25_method_49_code (1 : Nat) (Option.some Jvm.ClassFile.FieldType.int)) ∈ tb := tb_at 2008 (by decide +kernel) rfl
theorem q2009 : (Cond.methodLink "PinEngines" (340 : Nat) ({ cls := "PinEngines", name := "firstEngine", desc := "(I)I" } : Jvm.MethodName)) ∈ tb := tb_at 2009 (by decide +kernel) rfl
theorem q2010 : (Cond.static ({ cls := "PinEngines", name := "firstEngine", desc := "(I)I" } : Jvm.MethodName)) ∈ tb := tb_at 2010 (by decide +kernel) rfl
theorem q2011 : (Cond.code ({ cls := "PinEngines", name := "firstEngine", desc := "(I)I" } : Jvm.MethodName) prog_1_method_50_code (2 : Nat) (Option.some Jvm.ClassFile.FieldType.int)) ∈ tb := tb_at 2011 (by decide +kernel) rfl
theorem q2816 : (Cond.methodLink "PinEnginesModel" (648 : Nat) ({ cls := "PinEnginesModel", name := "writeOperands", desc := "(II)V" } : Jvm.MethodName)) ∈ tb := tb_at 2816 (by decide +kernel) rfl
theorem q2818 : (Cond.instanceMethod ({ cls := "PinEnginesModel", name := "writeOperands", desc := "(II)V" } : Jvm.MethodName)) ∈ tb := tb_at 2818 (by decide +kernel) rfl
theorem q2819 : (Cond.code ({ cls := "PinEnginesModel", name := "writeOperands", desc := "(II)V" } : Jvm.MethodName) prog_15_method_150_code (5 : Nat) (Option.none : Option Jvm.ClassFile.FieldType)) ∈ tb := tb_at 2819 (by decide +kernel) rfl
theorem q2820 : (Cond.methodLink "PinEnginesModel" (641 : Nat) ({ cls := "PinEnginesModel", name := "writeIf", desc := "(ZLjava/lang/String;)V" } : Jvm.MethodName)) ∈ tb := tb_at 2820 (by decide +kernel) rfl
theorem q2822 : (Cond.instanceMethod ({ cls := "PinEnginesModel", name := "writeIf", desc := "(ZLjava/lang/String;)V" } : Jvm.MethodName)) ∈ tb := tb_at 2822 (by decide +kernel) rfl
theorem q2823 : (Cond.code ({ cls := "PinEnginesModel", name := "writeIf", desc := "(ZLjava/lang/String;)V" } : Jvm.MethodName) prog_15_method_148_code (3 : Nat) (Option.none : Option Jvm.ClassFile.FieldType)) ∈ tb := tb_at 2823 (by decide +kernel) rfl
theorem q2824 : (Cond.methodLink "PinEnginesModel" (638 : Nat) ({ cls := "PinEnginesModel", name := "writeNumber", desc := "(I)V" } : Jvm.MethodName)) ∈ tb := tb_at 2824 (by decide +kernel) rfl
theorem q2826 : (Cond.instanceMethod ({ cls := "PinEnginesModel", name := "writeNumber", desc := "(I)V" } : Jvm.MethodName)) ∈ tb := tb_at 2826 (by decide +kernel) rfl
theorem q2827 : (Cond.code ({ cls := "PinEnginesModel", name := "writeNumber", desc := "(I)V" } : Jvm.MethodName) prog_15_method_147_code (2 : Nat) (Option.none : Option Jvm.ClassFile.FieldType)) ∈ tb := tb_at 2827 (by decide +kernel) rfl
theorem q2828 : (Cond.methodLink "PinEnginesModel" (633 : Nat) ({ cls := "PinEnginesModel", name := "digits", desc := "(I)V" } : Jvm.MethodName)) ∈ tb := tb_at 2828 (by decide +kernel) rfl
theorem q2830 : (Cond.instanceMethod ({ cls := "PinEnginesModel", name := "digits", desc := "(I)V" } : Jvm.MethodName)) ∈ tb := tb_at 2830 (by decide +kernel) rfl
theorem q2831 : (Cond.code ({ cls := "PinEnginesModel", name := "digits", desc := "(I)V" } : Jvm.MethodName) prog_15_method_146_code (2 : Nat) (Option.none : Option Jvm.ClassFile.FieldType)) ∈ tb := tb_at 2831 (by decide +kernel) rfl
theorem q2832 : (Cond.methodLink "PinEnginesModel" (645 : Nat) ({ cls := "PinEnginesModel", name := "writeAccess", desc := "(I)V" } : Jvm.MethodName)) ∈ tb := tb_at 2832 (by decide +kernel) rfl
theorem q2834 : (Cond.instanceMethod ({ cls := "PinEnginesModel", name := "writeAccess", desc := "(I)V" } : Jvm.MethodName)) ∈ tb := tb_at 2834 (by decide +kernel) rfl
theorem q2835 : (Cond.code ({ cls := "PinEnginesModel", name := "writeAccess", desc := "(I)V" } : Jvm.MethodName) prog_15_method_149_code (3 : Nat) (Option.none : Option Jvm.ClassFile.FieldType)) ∈ tb := tb_at 2835 (by decide +kernel) rfl
theorem q2844 : (Cond.methodLink "PinEnginesModel" (664 : Nat) ({ cls := "PinEnginesModel", name := "compileTest", desc := "()V" } : Jvm.MethodName)) ∈ tb := tb_at 2844 (by decide +kernel) rfl
theorem q2846 : (Cond.instanceMethod ({ cls := "PinEnginesModel", name := "compileTest", desc := "()V" } : Jvm.MethodName)) ∈ tb := tb_at 2846 (by decide +kernel) rfl
theorem q2847 : (Cond.code ({ cls := "PinEnginesModel", name := "compileTest", desc := "()V" } : Jvm.MethodName) prog_15_method_158_code (1 : Nat) (Option.none : Option Jvm.ClassFile.FieldType)) ∈ tb := tb_at 2847 (by decide +kernel) rfl
theorem q2848 : (Cond.methodLink "PinEnginesModel" (670 : Nat) ({ cls := "PinEnginesModel", name := "compileConjunction", desc := "()V" } : Jvm.MethodName)) ∈ tb := tb_at 2848 (by decide +kernel) rfl
theorem q2850 : (Cond.instanceMethod ({ cls := "PinEnginesModel", name := "compileConjunction", desc := "()V" } : Jvm.MethodName)) ∈ tb := tb_at 2850 (by decide +kernel) rfl
theorem q2851 : (Cond.code ({ cls := "PinEnginesModel", name := "compileConjunction", desc := "()V" } : Jvm.MethodName) prog_15_method_157_code (1 : Nat) (Option.none : Option Jvm.ClassFile.FieldType)) ∈ tb := tb_at 2851 (by decide +kernel) rfl
theorem q2852 : (Cond.methodLink "PinEnginesModel" (661 : Nat) ({ cls := "PinEnginesModel", name := "compileFactor", desc := "()V" } : Jvm.MethodName)) ∈ tb := tb_at 2852 (by decide +kernel) rfl
theorem q2854 : (Cond.instanceMethod ({ cls := "PinEnginesModel", name := "compileFactor", desc := "()V" } : Jvm.MethodName)) ∈ tb := tb_at 2854 (by decide +kernel) rfl
theorem q2855 : (Cond.code ({ cls := "PinEnginesModel", name := "compileFactor", desc := "()V" } : Jvm.MethodName) prog_15_method_156_code (2 : Nat) (Option.none : Option Jvm.ClassFile.FieldType)) ∈ tb := tb_at 2855 (by decide +kernel) rfl
theorem mmX13_digits : MM yX13_digits cX13_digits 2 (none) 1 := ⟨q173, q2831, by decide +kernel, by decide +kernel, by decide +kernel⟩
theorem miX13_digits : MI yX13_digits := ⟨q2830, q144⟩
theorem mmX13_compileConjunction : MM yX13_compileConjunction cX13_compileConjunction 1 (none) 0 := ⟨q173, q2851, by decide +kernel, by decide +kernel, by decide +kernel⟩
theorem miX13_compileConjunction : MI yX13_compileConjunction := ⟨q2850, q147⟩
theorem mmX13_compileFactor : MM yX13_compileFactor cX13_compileFactor 2 (none) 0 := ⟨q173, q2855, by decide +kernel, by decide +kernel, by decide +kernel⟩
theorem miX13_compileFactor : MI yX13_compileFactor := ⟨q2854, q148⟩
theorem mmX13_compileTest : MM yX13_compileTest cX13_compileTest 1 (none) 0 := ⟨q173, q2847, by decide +kernel, by decide +kernel, by decide +kernel⟩
theorem miX13_compileTest : MI yX13_compileTest := ⟨q2846, q146⟩
theorem mmX6_readConjunction : MM yX6_readConjunction cX6_readConjunction 4 (some .int) 1 := ⟨q167, q1953, by decide +kernel, by decide +kernel, by decide +kernel⟩
theorem miX6_readConjunction : MI yX6_readConjunction := ⟨q1952, q43⟩
theorem mmX6_readFactor : MM yX6_readFactor cX6_readFactor 3 (some .int) 1 := ⟨q167, q1957, by decide +kernel, by decide +kernel, by decide +kernel⟩
theorem miX6_readFactor : MI yX6_readFactor := ⟨q1956, q44⟩
theorem mmX6_readTest : MM yX6_readTest cX6_readTest 4 (some .int) 1 := ⟨q167, q1949, by decide +kernel, by decide +kernel, by decide +kernel⟩
theorem miX6_readTest : MI yX6_readTest := ⟨q1948, q42⟩
theorem mmX6_readComparison : MM yX6_readComparison cX6_readComparison 4 (some .int) 0 := ⟨q167, q1965, by decide +kernel, by decide +kernel, by decide +kernel⟩
theorem miX6_readComparison : MI yX6_readComparison := ⟨q1964, q45⟩
theorem mmX11_expectEnd : MM yX11_expectEnd cX11_expectEnd 1 (none) 0 := ⟨q156, q2002, by decide +kernel, by decide +kernel, by decide +kernel⟩
theorem miX11_expectEnd : MI yX11_expectEnd := ⟨q2000, q2001⟩
theorem mmX12_firstEngine : MM yX12_firstEngine cX12_firstEngine 2 (some .int) 1 := ⟨q155, q2011, by decide +kernel, by decide +kernel, by decide +kernel⟩
theorem mmJ6_bitCount_0f7a4 : MM yJ6_bitCount_0f7a4 cJ6_bitCount_0f7a4 1 (some .int) 1 := ⟨q184, q2008, by decide +kernel, by decide +kernel, by decide +kernel⟩
theorem mmX13_writeNumber : MM yX13_writeNumber cX13_writeNumber 2 (none) 1 := ⟨q173, q2827, by decide +kernel, by decide +kernel, by decide +kernel⟩
theorem miX13_writeNumber : MI yX13_writeNumber := ⟨q2826, q143⟩
theorem mmX13_writeIf : MM yX13_writeIf cX13_writeIf 3 (none) 2 := ⟨q173, q2823, by decide +kernel, by decide +kernel, by decide +kernel⟩
theorem miX13_writeIf : MI yX13_writeIf := ⟨q2822, q142⟩
theorem mmX13_writeAccess : MM yX13_writeAccess cX13_writeAccess 3 (none) 1 := ⟨q173, q2835, by decide +kernel, by decide +kernel, by decide +kernel⟩
theorem miX13_writeAccess : MI yX13_writeAccess := ⟨q2834, q145⟩
theorem mmX13_writeOperands : MM yX13_writeOperands cX13_writeOperands 5 (none) 2 := ⟨q173, q2819, by decide +kernel, by decide +kernel, by decide +kernel⟩
theorem miX13_writeOperands : MI yX13_writeOperands := ⟨q2818, q141⟩
