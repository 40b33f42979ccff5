/-! TEXTS AND SYMBOLS: constants of the enum, String constants, the JDK's own small methods over them -/
section Text10
variable {X : CX} {own : String} {cc : ByteArray} {α : Type} {r0 : α} {ca sl : Nat} {μ : Mem} {pc : Nat} {L L' : List (Nat × Value)} {st : List Value} {o o1 o2 : Option α}
theorem s_i2c (C : Ok X own cc) {x : Int32} (hd : decode cc pc = .ok (.i2c, 1)) (k : G X r0 ca sl μ (pc + 1) L (.int ((x.toUInt32 % 65536).toInt32) :: st) o) : G X r0 ca sl μ pc L (.int x :: st) o := by
  obtain ⟨p, l, e, R, s, m, args, below, meth, c, D, ad, ty, A, Q, nL, vv⟩ := X
  obtain ⟨hx, hb, hml, hown, hts, hK, hD, hA, hlk, hZ⟩ := C
  intro h H locs ls hP hS hl
  exact lv_i2c hx hb hd rfl (k h H locs ls hP hS hl)
theorem s_gcs (C : Ok X own cc) {ix : Nat} (hw : Cond.fieldLink own ix "java/lang/String" "COMPACT_STRINGS" "Z" ∈ tb) (hd : decode cc pc = .ok (.getstatic ix, 3)) (k : G X r0 ca sl μ (pc + 3) L (.int 1 :: st) o) : G X r0 ca sl μ pc L st o := by
  obtain ⟨p, l, e, R, s, m, args, below, meth, c, D, ad, ty, A, Q, nL, vv⟩ := X
  obtain ⟨hx, hb, hml, hown, hts, hK, hD, hA, hlk, hZ⟩ := C
  intro h H locs ls hP hS hl
  exact va_gets hx hb hZ.2.2.2.2.2.2.1 hS hown (hts _ hw) (fun _ h9 => h9) hd (k h H locs ls hP hS hl)
theorem s_gfmt (C : Ok X own cc) {ix : Nat} (hw : Cond.fieldLink own ix "jdk/internal/util/Preconditions" "SIOOBE_FORMATTER" "Ljava/util/function/BiFunction;" ∈ tb) (hd : decode cc pc = .ok (.getstatic ix, 3)) (k : ∀ v : Value, (v = .null ∨ ∃ t, v = .ref t) → G X r0 ca sl μ (pc + 3) L (v :: st) o) : G X r0 ca sl μ pc L st o := by
  obtain ⟨p, l, e, R, s, m, args, below, meth, c, D, ad, ty, A, Q, nL, vv⟩ := X
  obtain ⟨hx, hb, hml, hown, hts, hK, hD, hA, hlk, hZ⟩ := C
  intro h H locs ls hP hS hl
  rcases hZ.2.2.2.2.2.2.2.1 with z | ⟨t, z⟩
  · exact va_gets hx hb z hS hown (hts _ hw) (fun _ h9 => h9) hd (k _ (Or.inl rfl) h H locs ls hP hS hl)
  · exact va_gets hx hb z hS hown (hts _ hw) (fun _ h9 => h9) hd (k _ (Or.inr ⟨t, rfl⟩) h H locs ls hP hS hl)
theorem s_strv (C : Ok X own cc) {ix i : Nat} (hi : i < 70) (hw : Cond.fieldLink own ix "java/lang/String" "value" "[B" ∈ tb) (hd : decode cc pc = .ok (.getfield ix, 3)) (k : G X r0 ca sl μ (pc + 3) L (.ref (xa X 52 i) :: st) o) : G X r0 ca sl μ pc L (.ref (xa X 51 i) :: st) o := by
  obtain ⟨p, l, e, R, s, m, args, below, meth, c, D, ad, ty, A, Q, nL, vv⟩ := X
  obtain ⟨hx, hb, hml, hown, hts, hK, hD, hA, hlk, hZ⟩ := C
  intro h H locs ls hP hS hl
  exact vk_getf hx hb (hZ.2.2.2.2.2.2.2.2.2.1.1 i hi).2.2.1 hS hown (hts _ hw) (fun _ h9 => h9) hd (k h H locs ls hP hS hl)
theorem s_strc (C : Ok X own cc) {ix i : Nat} (hi : i < 70) (hw : Cond.fieldLink own ix "java/lang/String" "coder" "B" ∈ tb) (hd : decode cc pc = .ok (.getfield ix, 3)) (k : G X r0 ca sl μ (pc + 3) L (.int 0 :: st) o) : G X r0 ca sl μ pc L (.ref (xa X 51 i) :: st) o := by
  obtain ⟨p, l, e, R, s, m, args, below, meth, c, D, ad, ty, A, Q, nL, vv⟩ := X
  obtain ⟨hx, hb, hml, hown, hts, hK, hD, hA, hlk, hZ⟩ := C
  intro h H locs ls hP hS hl
  exact vk_getf hx hb (hZ.2.2.2.2.2.2.2.2.2.1.1 i hi).2.1 hS hown (hts _ hw) (fun _ h9 => h9) hd (k h H locs ls hP hS hl)
theorem s_strn (C : Ok X own cc) {i : Nat} (hi : i < 70) (hd : decode cc pc = .ok (.arraylength, 1)) (k : G X r0 ca sl μ (pc + 1) L (.int (Int32.ofNat (txN.getD i 0)) :: st) o) : G X r0 ca sl μ pc L (.ref (xa X 52 i) :: st) o := by
  obtain ⟨p, l, e, R, s, m, args, below, meth, c, D, ad, ty, A, Q, nL, vv⟩ := X
  obtain ⟨hx, hb, hml, hown, hts, hK, hD, hA, hlk, hZ⟩ := C
  intro h H locs ls hP hS hl
  exact va_tlen hx hb (hZ.2.2.2.2.2.2.2.2.2.1.1 i hi).2.2.2 hS rfl hd (k h H locs ls hP hS hl)
theorem s_strb (C : Ok X own cc) {i : Nat} {j : Int32} (hi : i < 70) (hd : decode cc pc = .ok (.baload, 1)) (k : G X r0 ca sl μ (pc + 1) L (.int ((txI.getD i []).getD j.toNatClampNeg 0) :: st) o) : G X r0 ca sl μ pc L (.int j :: .ref (xa X 52 i) :: st) (ckI j (txN.getD i 0) o) := by
  obtain ⟨p, l, e, R, s, m, args, below, meth, c, D, ad, ty, A, Q, nL, vv⟩ := X
  obtain ⟨hx, hb, hml, hown, hts, hK, hD, hA, hlk, hZ⟩ := C
  intro h H locs ls hP hS hl
  unfold ckI at h
  split at h
  case isFalse => cases h
  rename_i hj
  exact va_tb hx hb (hZ.2.2.2.2.2.2.2.2.2.1.1 i hi).2.2.2 hS hj rfl hd (k h H locs ls hP hS hl)
theorem s_ldcs (C : Ok X "PinEnginesModel" cc) {ix i : Nat} {tx : String} (hw : (ix, tx, i) ∈ txR) (hd : decode cc pc = .ok (.ldc ix, 2)) (k : G X r0 ca sl μ (pc + 2) L (.ref (xa X 51 i) :: st) o) : G X r0 ca sl μ pc L st o := by
  obtain ⟨p, l, e, R, s, m, args, below, meth, c, D, ad, ty, A, Q, nL, vv⟩ := X
  obtain ⟨hx, hb, hml, hown, hts, hK, hD, hA, hlk, hZ⟩ := C
  intro h H locs ls hP hS hl
  exact va_ldcS hx hb hown (hZ.2.2.2.2.2.2.2.2.2.2.1 _ hw) hd (k h H locs ls hP hS hl)
theorem s_symo (C : Ok X "java/lang/Enum" cc) {i : Nat} (hi : i < 74) (hd : decode cc pc = .ok (.getfield 7, 3)) (k : G X r0 ca sl μ (pc + 3) L (.int (syO.getD i 0) :: st) o) : G X r0 ca sl μ pc L (.ref (xa X 50 i) :: st) o := by
  obtain ⟨p, l, e, R, s, m, args, below, meth, c, D, ad, ty, A, Q, nL, vv⟩ := X
  obtain ⟨hx, hb, hml, hown, hts, hK, hD, hA, hlk, hZ⟩ := C
  intro h H locs ls hP hS hl
  exact va_getE hx hb hZ.1 hi hS hown (q := ("java/lang/Enum", "ordinal", "I", syO)) List.mem_cons_self (hts _ q2916) (fun _ h9 => h9) hd (k h H locs ls hP hS hl)
theorem g_eqI {e e' : Int32} (h : e = e') (k : G X r0 ca sl μ pc L (.int e' :: st) o) : G X r0 ca sl μ pc L (.int e :: st) o := by subst h; exact k
theorem g_eqo {o' : Option α} (h : o = o') (k : G X r0 ca sl μ pc L st o') : G X r0 ca sl μ pc L st o := by subst h; exact k
end Text10
section Ends10
variable {X : CX} {own : String} {cc : ByteArray} {fr lo ca sl : Nat} {μ : Mem} {pc : Nat} {L : List (Nat × Value)}
/-- a char or a byte is answered -/
theorem s_nret (C : Ok X own cc) {ft : FieldType} {r0 : Int32 × Mem} (E : Fen X (some ft) (rvI (xa X) r0.1) r0.2 fr lo ca sl) {v : Int32} (hn : narrow ft (.int v) = .int v) (hd : decode cc pc = .ok (.ireturn, 1)) : G X r0 ca sl μ pc L [.int v] (some (v, μ)) := by
  obtain ⟨p, l, e, R, s, m, args, below, meth, c, D, ad, ty, A, Q, nL, vv⟩ := X
  obtain ⟨hx, hb, hml, hown, hts, hK, hD, hA, hlk, hZ⟩ := C
  obtain ⟨hr, hR, hQ⟩ := E
  intro h H locs ls hP hS hl
  cases h
  have hQ2 : Q = MQ below (KQ vv D ad ty μ (some (.int v)) A) args s ca sl A := hQ
  show W p l e R s m args below meth c H locs ca sl Q (F0 m pc ls [.int v])
  rw [hQ2]
  exact W.zret hx hb hr hn (fun t ht hW => ⟨rfl, by rw [ht]; exact hP, hS.F ht⟩) hS.2.2 hd
end Ends10
set_option maxRecDepth 20000 in
theorem kJx29ce0_ordinal_8abf5 (l : Launch) (i : Nat) (hi : i < 74) : Kon 0 l yJx29ce0_ordinal_8abf5 cJx29ce0_ordinal_8abf5 1 (some .int) 0 0 0 0 (fun ad => [.ref (ad 50 i)]) rvI (fun μ => some (syO.getD i 0, μ)) := by
  refine kon_of (by decide) (fun _ => Nat.le_of_ble_eq_true rfl) (fun X r0 μ hXl hXn V C E => ?_)
  show G X r0 0 0 μ 0 [(0, .ref (xa X 50 i))] [] (some (syO.getD i 0, μ))
  refine s_aload_n C dJx29ce0_ordinal_8abf5_0 rfl 0 rfl ?_
  refine s_symo C hi dJx29ce0_ordinal_8abf5_1 ?_
  exact s_iret C E dJx29ce0_ordinal_8abf5_4
section Ord10
variable {X : CX} {own : String} {cc : ByteArray} {α : Type} {r0 : α} {ca sl fr lo mcX msX : Nat} {μ : Mem} {pc : Nat} {L : List (Nat × Value)} {st : List Value} {o : Option α} {rtX : Option FieldType} {vX : Option Value} {μX : Mem}
theorem s_ordn (C : Ok X own cc) (E : Rm X fr lo mcX msX) {i ix : Nat} (hi : i < 74) (hl : Cond.methodLink own ix ⟨"PinEngines$Symbol", "ordinal", "()I"⟩ ∈ tb) (hroom : 1 ≤ fr ∧ 20 ≤ lo ∧ ca ≤ mcX ∧ sl ≤ msX) (hst : (st.map fun v => v.category).sum ≤ 8) (hd : decode cc pc = .ok (.invokevirtual ix, 3)) (k : G X r0 ca sl μ (pc + 3) L (.int (syO.getD i 0) :: st) o) : G X r0 ca sl μ pc L (.ref (xa X 50 i) :: st) o := by
  obtain ⟨p, l, e, R, s, m, args, below, meth, c, D, ad, ty, A, Q, nL, vv⟩ := X
  obtain ⟨hx, hb, hml, hown, hts, hK, hD, hA, hlk, hZ⟩ := C
  have hRX : R = rm4 fr lo mcX msX := E
  subst hRX
  intro h H locs ls hP hS hl'
  refine run_go (v := some (.int (syO.getD i 0))) (μ1 := μ) (va_runU (C := "PinEngines$Symbol") (owner := "java/lang/Enum") (x := ⟨"PinEngines$Symbol", "ordinal", "()I"⟩) (As := []) (rest := st) (n := 0) ⟨hx, hb, hml, hown, hts⟩ (kJx29ce0_ordinal_8abf5 l i hi vv (Nat.zero_le _) D ad ty μ H.size (syO.getD i 0, μ) rfl) (va_cwU 0 hts (tb_goodIn (fun w hw => ?_)) rfl rfl rfl rfl ⟨by decide +kernel, by decide +kernel, by decide +kernel⟩ ⟨hroom.1, hroom.2.1⟩) ⟨kp_blind, va_recvE hZ.1 hi hS, kp_pre hP hK (hD μ) hS hA hZ⟩ rfl rfl hl'.1 rfl (lv_room hst) hd ⟨hroom.2.2.1, hroom.2.2.2⟩) hS (wl_A (hD μ) hS hA) (fun H1 locs1 hP1 hS1 => k h H1 locs1 ls hP1 hS1 hl')
  rcases List.mem_append.mp hw with e1 | e1
  · simp only [List.mem_cons, List.not_mem_nil, or_false] at e1
    rcases e1 with e2 | e2 | e2 | e2 | e2
    · rw [e2]; exact hl
    · rw [e2]; exact tb_of (lw_c5 (List.mem_of_getElem? (i := 9) (by decide +kernel))) rfl
    · rw [e2]; exact tb_of (lw_c5 (List.mem_of_getElem? (i := 11) (by decide +kernel))) rfl
    · rw [e2]; exact q1126
    · rw [e2]; exact q157
  · exact wm_in q1127 w e1
end Ord10
