/-! THE CONSTANTS AT THE START, out of what the Statement gives -/
abbrev FLN : List Cond := flatC (Jvm.Cond.and given_1 narrow_1)
def syD : String := "LPinEngines$Symbol;"
def syC : String := "PinEngines$Symbol"
def syS : List Nat := [273, 273, 273, 273, 273, 283, 286, 289, 292, 295, 299, 302, 305, 308, 311, 314, 317, 320, 323, 326, 329, 332, 335, 338, 341, 344, 347, 350, 353, 356, 359, 362, 365, 368, 371, 374, 377, 380, 383, 386, 389, 392, 395, 398, 401, 404, 407, 410, 413, 416, 419, 422, 425, 428, 431, 434, 437, 440, 443, 446, 449, 452, 455, 458, 461, 464, 467, 470, 473, 476, 479, 482, 485, 488]
def caO : List String := ["PinEnginesModel", "PinEnginesModel", "PinEnginesModel", "PinEnginesModel", "PinEnginesModel", "PinEnginesModel", "PinEnginesModel", "PinEnginesModel", "PinEnginesModel", "PinEnginesModel", "PinEnginesModel", "PinEnginesModel", "PinEnginesModel", "PinEnginesModel", "PinEnginesModel", "PinEnginesModel", "PinEnginesModel", "PinEnginesModel", "PinEnginesModel", "PinEnginesModel", "PinEnginesModel", "PinEnginesModel", "PinEnginesModel", "PinEnginesModel", "PinEnginesModel", "PinEnginesModel", "PinEnginesModel", "PinEnginesModel", "PinEnginesModel", "PinEnginesModel", "PinEnginesModel", "PinEnginesModel", "PinEnginesModel", "PinEnginesModel", "PinEnginesModel", "PinEnginesModel", "PinEnginesModel", "PinEnginesModel", "PinEnginesModel", "PinEnginesModel", "PinEnginesModel", "PinEnginesModel", "PinEnginesModel", "PinEnginesModel", "PinEnginesModel", "PinEnginesModel", "PinEnginesModel", "PinEnginesModel", "PinEnginesModel", "PinEnginesModel", "PinEnginesModel", "PinEnginesModel", "PinEnginesModel", "PinEnginesModel", "PinEnginesModel", "PinEnginesModel", "PinEnginesModel", "PinEnginesModel", "PinEnginesModel", "PinEnginesModel", "PinEnginesModel", "PinEnginesModel", "PinEnginesModel", "PinEngines$Symbol", "PinEngines$Symbol", "PinEngines$Symbol", "PinEngines$Symbol", "PinEngines$Symbol", "PinEngines$Symbol", "PinEngines$Symbol"]
def caI : List Nat := [59, 61, 63, 65, 67, 69, 71, 73, 75, 77, 79, 81, 83, 89, 91, 93, 95, 97, 99, 101, 103, 108, 110, 112, 114, 116, 118, 120, 122, 124, 129, 131, 133, 135, 137, 139, 141, 143, 145, 147, 149, 151, 153, 155, 157, 159, 161, 163, 165, 167, 169, 171, 173, 175, 177, 179, 181, 183, 185, 187, 189, 191, 193, 283, 286, 289, 295, 302, 292, 299]
def caT (k : Nat) : Term := .string (caO.getD k "") (caI.getD k 0)
def syTm (i : Nat) : Term := .static syC (syN.getD i "") syD
set_option maxRecDepth 100000 in
theorem fl_ex : ∀ i, i < 74 → Cond.exactly (syTm i) syC ∈ FLN := by decide +kernel
set_option maxRecDepth 100000 in
theorem fl_ord : ∀ i, i < 74 → Cond.eq (.field (syTm i) "java/lang/Enum" "ordinal" "I") (.int (syO.getD i 0)) ∈ FLN := by decide +kernel
set_option maxRecDepth 100000 in
theorem fl_rol : ∀ i, i < 74 → Cond.eq (.field (syTm i) "PinEngines$Symbol" "roles" "I") (.int (syR.getD i 0)) ∈ FLN := by decide +kernel
set_option maxRecDepth 100000 in
theorem fl_txt : ∀ i, i < 74 → Cond.eq (.field (syTm i) "PinEngines$Symbol" "text" "Ljava/lang/String;") (.string "PinEngines$Symbol" (syS.getD i 0)) ∈ FLN := by decide +kernel
set_option maxRecDepth 100000 in
theorem fl_all : ∀ i, i < 74 → Cond.eq (.elem (.static syC "ALL" "[LPinEngines$Symbol;") (.int (Int32.ofNat i))) (syTm i) ∈ FLN := by decide +kernel
set_option maxRecDepth 100000 in
theorem fl_map : ∀ i, i < 74 → Cond.eq (.elem (.static "PinEngines$1" "$SwitchMap$PinEngines$Symbol" "[I") (.int (Int32.ofNat i))) (.int (smL.getD i 0)) ∈ FLN := by decide +kernel
set_option maxRecDepth 100000 in
theorem fl_d1 : ∀ i, i < 100 → Cond.eq (.elem (.static "java/lang/Integer" "DigitOnes" "[B") (.int (Int32.ofNat i))) (.int (nI (48 + i % 10))) ∈ FLN := by decide +kernel
set_option maxRecDepth 100000 in
theorem fl_d2 : ∀ i, i < 100 → Cond.eq (.elem (.static "java/lang/Integer" "DigitTens" "[B") (.int (Int32.ofNat i))) (.int (nI (48 + i / 10))) ∈ FLN := by decide +kernel
set_option maxRecDepth 100000 in
theorem fl_sx : ∀ i, i < 70 → Cond.exactly (caT i) "java/lang/String" ∈ FLN := by decide +kernel
set_option maxRecDepth 100000 in
theorem fl_sc : ∀ i, i < 70 → Cond.eq (.field (caT i) "java/lang/String" "coder" "B") (.int 0) ∈ FLN := by decide +kernel
set_option maxRecDepth 100000 in
theorem fl_sa : ∀ i, i < 70 → Cond.arrayOf (.field (caT i) "java/lang/String" "value" "[B") .byte ∈ FLN := by decide +kernel
set_option maxRecDepth 100000 in
theorem fl_sl : ∀ i, i < 70 → Cond.eq (.length (.field (caT i) "java/lang/String" "value" "[B")) (.int (Int32.ofNat (txN.getD i 0))) ∈ FLN := by decide +kernel
set_option maxRecDepth 100000 in
theorem fl_se : ∀ i, i < 70 → ∀ j, j < txN.getD i 0 → Cond.eq (.elem (.field (caT i) "java/lang/String" "value" "[B") (.int (Int32.ofNat j))) (.int ((txI.getD i []).getD j 0)) ∈ FLN := by decide +kernel
set_option maxRecDepth 100000 in
theorem fl_mR : ∀ q ∈ txR, (Term.string "PinEnginesModel" q.1 = caT q.2.2 ∨ Cond.eq (.string "PinEnginesModel" q.1) (caT q.2.2) ∈ FLN) ∧ q.2.2 < 70 := by decide +kernel
set_option maxRecDepth 100000 in
theorem fl_sR : ∀ i, i < 74 → (Term.string "PinEngines$Symbol" (syS.getD i 0) = caT (syT.getD i 0) ∨ Cond.eq (caT (syT.getD i 0)) (.string "PinEngines$Symbol" (syS.getD i 0)) ∈ FLN) := by decide +kernel
set_option maxRecDepth 100000 in
theorem fl_c1 : Cond.eq (.static "java/lang/String" "COMPACT_STRINGS" "Z") (.int 1) ∈ FLN := by decide +kernel
set_option maxRecDepth 100000 in
theorem fl_c2 : Cond.isRef (.static "jdk/internal/util/Preconditions" "SIOOBE_FORMATTER" "Ljava/util/function/BiFunction;") ∈ FLN := by decide +kernel
set_option maxRecDepth 100000 in
theorem fl_c3 : Cond.isRef (.static "java/lang/Throwable" "UNASSIGNED_STACK" "[Ljava/lang/StackTraceElement;") ∈ FLN := by decide +kernel
set_option maxRecDepth 100000 in
theorem fl_c4 : Cond.isRef (.static "java/lang/Throwable" "SUPPRESSED_SENTINEL" "Ljava/util/List;") ∈ FLN := by decide +kernel
set_option maxRecDepth 100000 in
theorem fl_c5 : Cond.arrayOf (.static syC "ALL" "[LPinEngines$Symbol;") (.object "PinEngines$Symbol") ∈ FLN := by decide +kernel
set_option maxRecDepth 100000 in
theorem fl_c6 : Cond.eq (.length (.static syC "ALL" "[LPinEngines$Symbol;")) (.int (Int32.ofNat 74)) ∈ FLN := by decide +kernel
set_option maxRecDepth 100000 in
theorem fl_c7 : Cond.arrayOf (.static "PinEngines$1" "$SwitchMap$PinEngines$Symbol" "[I") .int ∈ FLN := by decide +kernel
set_option maxRecDepth 100000 in
theorem fl_c8 : Cond.eq (.length (.static "PinEngines$1" "$SwitchMap$PinEngines$Symbol" "[I")) (.int (Int32.ofNat 74)) ∈ FLN := by decide +kernel
set_option maxRecDepth 100000 in
theorem fl_c9 : Cond.arrayOf (.static "java/lang/Integer" "DigitOnes" "[B") .byte ∈ FLN := by decide +kernel
set_option maxRecDepth 100000 in
theorem fl_c10 : Cond.eq (.length (.static "java/lang/Integer" "DigitOnes" "[B")) (.int (Int32.ofNat 100)) ∈ FLN := by decide +kernel
set_option maxRecDepth 100000 in
theorem fl_c11 : Cond.arrayOf (.static "java/lang/Integer" "DigitTens" "[B") .byte ∈ FLN := by decide +kernel
set_option maxRecDepth 100000 in
theorem fl_c12 : Cond.eq (.length (.static "java/lang/Integer" "DigitTens" "[B")) (.int (Int32.ofNat 100)) ∈ FLN := by decide +kernel
set_option maxRecDepth 100000 in
theorem fl_c13 : Cond.not (.castable "java/lang/IllegalArgumentException" "java/util/NoSuchElementException") ∈ FLN := by decide +kernel
set_option maxRecDepth 100000 in
theorem tl_sy : ∀ i, i < 74 → Cond.laysStatic syC (syN.getD i "") syD ∈ lw_tbl := by decide +kernel
set_option maxRecDepth 100000 in
theorem tl_t1 : Cond.laysStatic "PinEngines$Symbol" "ALL" "[LPinEngines$Symbol;" ∈ lw_tbl := by decide +kernel
set_option maxRecDepth 100000 in
theorem tl_t1i : Cond.initialized "PinEngines$Symbol" ∈ lw_tbl := by decide +kernel
set_option maxRecDepth 100000 in
theorem tl_t2 : Cond.laysStatic "PinEngines$1" "$SwitchMap$PinEngines$Symbol" "[I" ∈ lw_tbl := by decide +kernel
set_option maxRecDepth 100000 in
theorem tl_t2i : Cond.initialized "PinEngines$1" ∈ lw_tbl := by decide +kernel
set_option maxRecDepth 100000 in
theorem tl_t3 : Cond.laysStatic "java/lang/String" "COMPACT_STRINGS" "Z" ∈ lw_tbl := by decide +kernel
set_option maxRecDepth 100000 in
theorem tl_t3i : Cond.initialized "java/lang/String" ∈ lw_tbl := by decide +kernel
set_option maxRecDepth 100000 in
theorem tl_t4 : Cond.laysStatic "jdk/internal/util/Preconditions" "SIOOBE_FORMATTER" "Ljava/util/function/BiFunction;" ∈ lw_tbl := by decide +kernel
set_option maxRecDepth 100000 in
theorem tl_t4i : Cond.initialized "jdk/internal/util/Preconditions" ∈ lw_tbl := by decide +kernel
set_option maxRecDepth 100000 in
theorem tl_t5 : Cond.laysStatic "java/lang/Integer" "DigitOnes" "[B" ∈ lw_tbl := by decide +kernel
set_option maxRecDepth 100000 in
theorem tl_t5i : Cond.initialized "java/lang/Integer" ∈ lw_tbl := by decide +kernel
set_option maxRecDepth 100000 in
theorem tl_t6 : Cond.laysStatic "java/lang/Integer" "DigitTens" "[B" ∈ lw_tbl := by decide +kernel
set_option maxRecDepth 100000 in
theorem tl_t6i : Cond.initialized "java/lang/Integer" ∈ lw_tbl := by decide +kernel
set_option maxRecDepth 100000 in
theorem tl_t7 : Cond.laysStatic "java/lang/Throwable" "UNASSIGNED_STACK" "[Ljava/lang/StackTraceElement;" ∈ lw_tbl := by decide +kernel
set_option maxRecDepth 100000 in
theorem tl_t7i : Cond.initialized "java/lang/Throwable" ∈ lw_tbl := by decide +kernel
set_option maxRecDepth 100000 in
theorem tl_t8 : Cond.laysStatic "java/lang/Throwable" "SUPPRESSED_SENTINEL" "Ljava/util/List;" ∈ lw_tbl := by decide +kernel
set_option maxRecDepth 100000 in
theorem tl_t8i : Cond.initialized "java/lang/Throwable" ∈ lw_tbl := by decide +kernel
set_option maxRecDepth 100000 in
theorem tl_sR : ∀ q ∈ txR, Cond.stringRef "PinEnginesModel" q.1 q.2.1 ∈ lw_tbl := by decide +kernel
theorem eqv2 {args : Array Value} {s : State} {t u : Term} {v : Value} (h : (Cond.eq t u).before args s = true) (ht : t.eval args s none [] s = some v) : u.eval args s none [] s = some v := by
  cases hu : u.eval args s none [] s with
  | none => simp [Cond.before, Cond.holds, Cond.value, ht, hu] at h
  | some w => exact (va_eqv h hu).symm.trans ht ▸ rfl
theorem not_eq {args : Array Value} {s : State} {t u : Term} {a b : Nat} (ht : t.eval args s none [] s = some (.ref a)) (hu : u.eval args s none [] s = some (.ref b)) (hab : a ≠ b) : (Cond.not (.eq t u)).before args s = true := by
  simp [Cond.before, Cond.holds, Cond.value, ht, hu]
  exact hab
