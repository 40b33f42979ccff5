/-! WHAT IS KNOWN AT THE LAW'S ENTRY -/
theorem q1897 : (Cond.laysFinal "java/lang/String" "java/lang/String" "value" "[B") ∈ tb := tb_of (lw_c8 (List.mem_of_getElem? (i := 63) (by decide +kernel))) rfl
theorem q1899 : (Cond.laysFinal "java/lang/String" "java/lang/String" "coder" "B") ∈ tb := tb_of (lw_c8 (List.mem_of_getElem? (i := 65) (by decide +kernel))) rfl
theorem q1901 : (Cond.lays "java/lang/String" "java/lang/String" "hash" "I") ∈ tb := tb_of (lw_c8 (List.mem_of_getElem? (i := 67) (by decide +kernel))) rfl
theorem q1903 : (Cond.lays "java/lang/String" "java/lang/String" "hashIsZero" "Z") ∈ tb := tb_of (lw_c8 (List.mem_of_getElem? (i := 69) (by decide +kernel))) rfl
theorem inJ0_t : ∀ w ∈ u_ws RJ0 TJ0 4, w ∈ tb := u_in (fun k hk => match k, hk with
  | 0, _ => q1897
  | 1, _ => q1899
  | 2, _ => q1901
  | 3, _ => q1903
  | _ + 4, hk => absurd hk (by omega))
theorem kn_0 {s : State} {args : Array Value} (hts : ∀ w ∈ tb, w.before args s = true) : ∃ (cC : ClassId) (iS : Nat → Nat), u_Kn s RJ0 TJ0 4 cC iS := u_known hts inJ0_t (hts _ q1848)
theorem kn_1 {s : State} {args : Array Value} (hts : ∀ w ∈ tb, w.before args s = true) : ∃ (cC : ClassId) (iS : Nat → Nat), u_Kn s RJ4 TJ4 4 cC iS := u_known hts inJ4_t (hts _ q678)
theorem kn_2 {s : State} {args : Array Value} (hts : ∀ w ∈ tb, w.before args s = true) : ∃ (cC : ClassId) (iS : Nat → Nat), u_Kn s RX1 TX1 14 cC iS := u_known hts inX1_t (hts _ q465)
theorem kn_3 {s : State} {args : Array Value} (hts : ∀ w ∈ tb, w.before args s = true) : ∃ (cC : ClassId) (iS : Nat → Nat), u_Kn s RX2 TX2 8 cC iS := u_known hts inX2_t (hts _ q249)
theorem kn_4 {s : State} {args : Array Value} (hts : ∀ w ∈ tb, w.before args s = true) : ∃ (cC : ClassId) (iS : Nat → Nat), u_Kn s RX3 TX3 14 cC iS := u_known hts inX3_t (hts _ q458)
theorem kn_5 {s : State} {args : Array Value} (hts : ∀ w ∈ tb, w.before args s = true) : ∃ (cC : ClassId) (iS : Nat → Nat), u_Kn s RX4 TX4 5 cC iS := u_known hts inX4_t (hts _ q240)
theorem kn_6 {s : State} {args : Array Value} (hts : ∀ w ∈ tb, w.before args s = true) : ∃ (cC : ClassId) (iS : Nat → Nat), u_Kn s RX5 TX5 6 cC iS := u_known hts inX5_t (hts _ q433)
theorem kn_7 {s : State} {args : Array Value} (hts : ∀ w ∈ tb, w.before args s = true) : ∃ (cC : ClassId) (iS : Nat → Nat), u_Kn s RX6 TX6 4 cC iS := u_known hts inX6_t (hts _ q658)
theorem kn_8 {s : State} {args : Array Value} (hts : ∀ w ∈ tb, w.before args s = true) : ∃ (cC : ClassId) (iS : Nat → Nat), u_Kn s RX7 TX7 4 cC iS := u_known hts inX7_t (hts _ q471)
theorem kn_9 {s : State} {args : Array Value} (hts : ∀ w ∈ tb, w.before args s = true) : ∃ (cC : ClassId) (iS : Nat → Nat), u_Kn s RX8 TX8 20 cC iS := u_known hts inX8_t (hts _ q297)
theorem kn_10 {s : State} {args : Array Value} (hts : ∀ w ∈ tb, w.before args s = true) : ∃ (cC : ClassId) (iS : Nat → Nat), u_Kn s RX9 TX9 7 cC iS := u_known hts inX9_t (hts _ q629)
theorem kn_11 {s : State} {args : Array Value} (hts : ∀ w ∈ tb, w.before args s = true) : ∃ (cC : ClassId) (iS : Nat → Nat), u_Kn s RX10 TX10 0 cC iS := u_known hts (fun w hw => absurd hw (by show ¬ w ∈ ([] : List Cond); exact List.not_mem_nil)) (hts _ q994)
theorem kn_12 {s : State} {args : Array Value} (hts : ∀ w ∈ tb, w.before args s = true) : ∃ (cC : ClassId) (iS : Nat → Nat), u_Kn s RX11 TX11 9 cC iS := u_known hts inX11_t (hts _ q196)
theorem kn_13 {s : State} {args : Array Value} (hts : ∀ w ∈ tb, w.before args s = true) : ∃ (cC : ClassId) (iS : Nat → Nat), u_Kn s RX12 TX12 17 cC iS := u_known hts inX12_t (hts _ q188)
theorem kn_14 {s : State} {args : Array Value} (hts : ∀ w ∈ tb, w.before args s = true) : ∃ (cC : ClassId) (iS : Nat → Nat), u_Kn s RX13 TX13 47 cC iS := u_known hts inX13_t (hts _ q2013)
theorem kn_all {s : State} {args : Array Value} (hts : ∀ w ∈ tb, w.before args s = true) : ∃ (dC : Nat → ClassId) (dI : Nat → Nat → Nat), ∀ (k : Nat) (q : vw_C), vwCl[k]? = some q → u_Kn s q.1 q.2.1 q.2.2 (dC k) (dI k) := by
  obtain ⟨c0, i0, h0⟩ := kn_0 hts
  obtain ⟨c1, i1, h1⟩ := kn_1 hts
  obtain ⟨c2, i2, h2⟩ := kn_2 hts
  obtain ⟨c3, i3, h3⟩ := kn_3 hts
  obtain ⟨c4, i4, h4⟩ := kn_4 hts
  obtain ⟨c5, i5, h5⟩ := kn_5 hts
  obtain ⟨c6, i6, h6⟩ := kn_6 hts
  obtain ⟨c7, i7, h7⟩ := kn_7 hts
  obtain ⟨c8, i8, h8⟩ := kn_8 hts
  obtain ⟨c9, i9, h9⟩ := kn_9 hts
  obtain ⟨c10, i10, h10⟩ := kn_10 hts
  obtain ⟨c11, i11, h11⟩ := kn_11 hts
  obtain ⟨c12, i12, h12⟩ := kn_12 hts
  obtain ⟨c13, i13, h13⟩ := kn_13 hts
  obtain ⟨c14, i14, h14⟩ := kn_14 hts
  refine ⟨fun k => [c0, c1, c2, c3, c4, c5, c6, c7, c8, c9, c10, c11, c12, c13, c14].getD k 0, fun k => [i0, i1, i2, i3, i4, i5, i6, i7, i8, i9, i10, i11, i12, i13, i14].getD k (fun _ => 0), fun k q hq => ?_⟩
  match k, hq with
  | 0, hq => cases hq; exact h0
  | 1, hq => cases hq; exact h1
  | 2, hq => cases hq; exact h2
  | 3, hq => cases hq; exact h3
  | 4, hq => cases hq; exact h4
  | 5, hq => cases hq; exact h5
  | 6, hq => cases hq; exact h6
  | 7, hq => cases hq; exact h7
  | 8, hq => cases hq; exact h8
  | 9, hq => cases hq; exact h9
  | 10, hq => cases hq; exact h10
  | 11, hq => cases hq; exact h11
  | 12, hq => cases hq; exact h12
  | 13, hq => cases hq; exact h13
  | 14, hq => cases hq; exact h14
  | k + 15, hq => exact absurd hq (by simp)
/-- arrays of numbers -/
theorem ak_of {s : State} {args : Array Value} {t : FieldType} (h : (Cond.arrayClass t).before args s = true) : ∃ c : ClassId, ArrOfT s c t ∧ s.vm.findClass ("[" ++ t.toString) = some c := by
  obtain ⟨c, k, comp, h1, h2, h3⟩ := Cond.arrayClass_spec h
  exact ⟨c, fun n z => ⟨fun k h => (by cases h), k, h2, comp, h3⟩, h1⟩
/-- arrays of objects -/
theorem ao_of {s : State} {args : Array Value} {C : String} (h : (Cond.arrayOver (.object C)).before args s = true) : ∃ c : ClassId, ArrOfT s c (.object C) ∧ va_RA s c (.object C) := by
  obtain ⟨comp, c, k, h1, h2, h3, h4, h5⟩ := Cond.arrayOver_spec h
  exact ⟨c, fun n z => ⟨fun k h => (by cases h), k, h3, comp, h4⟩, k, comp, h3, h4, h1, h5⟩
theorem aol_0 : Cond.arrayOver (.object "PinEngines$Engine") ∈ lw_tbl := lw_c2 (by decide +kernel)
theorem aol_1 : Cond.arrayOver (.object "PinEngines$Instruction") ∈ lw_tbl := lw_c1 (by decide +kernel)
theorem aol_2 : Cond.arrayOver (.object "PinEngines$Setup") ∈ lw_tbl := lw_c1 (by decide +kernel)
theorem aol_3 : Cond.arrayOver (.object "PinEngines$Machine") ∈ lw_tbl := lw_c3 (by decide +kernel)
theorem aol_4 : Cond.arrayOver (.object "PinEngines$Symbol") ∈ lw_tbl := lw_c1 (by decide +kernel)
theorem aol_5 : Cond.arrayOver (.object "java/lang/String") ∈ lw_tbl := lw_c8 (by decide +kernel)
theorem ty_all {s : State} {args : Array Value} (hts : ∀ w ∈ tb, w.before args s = true) (ht2 : ∀ w ∈ lw_tbl, w.before args s = true) : ∃ ty : Nat → ClassId, ∀ (k : Nat) (q : ClassId × FieldType), (tys ty)[k]? = some q → ArrOfT s q.1 q.2 ∧ va_RA s q.1 q.2 := by
  obtain ⟨c0, a0, b0⟩ := ak_of (hts _ q238)
  obtain ⟨c1, a1, b1⟩ := ak_of (hts _ q237)
  obtain ⟨c2, a2, b2⟩ := ak_of (hts _ q2228)
  obtain ⟨c3, a3, b3⟩ := ak_of (hts _ q2881)
  obtain ⟨c4, a4, b4⟩ := ao_of (ht2 _ aol_0)
  obtain ⟨c5, a5, b5⟩ := ao_of (ht2 _ aol_1)
  obtain ⟨c6, a6, b6⟩ := ao_of (ht2 _ aol_2)
  obtain ⟨c7, a7, b7⟩ := ao_of (ht2 _ aol_3)
  obtain ⟨c8, a8, b8⟩ := ao_of (ht2 _ aol_4)
  obtain ⟨c9, a9, b9⟩ := ao_of (ht2 _ aol_5)
  refine ⟨fun k => [c0, c1, c2, c3, c4, c5, c6, c7, c8, c9].getD k 0, fun k q hq => ?_⟩
  match k, hq with
  | 0, hq => cases hq; exact ⟨a0, b0⟩
  | 1, hq => cases hq; exact ⟨a1, b1⟩
  | 2, hq => cases hq; exact ⟨a2, b2⟩
  | 3, hq => cases hq; exact ⟨a3, b3⟩
  | 4, hq => cases hq; exact ⟨a4, b4⟩
  | 5, hq => cases hq; exact ⟨a5, b5⟩
  | 6, hq => cases hq; exact ⟨a6, b6⟩
  | 7, hq => cases hq; exact ⟨a7, b7⟩
  | 8, hq => cases hq; exact ⟨a8, b8⟩
  | 9, hq => cases hq; exact ⟨a9, b9⟩
  | k + 10, hq => exact absurd hq (by simp [tys])
theorem ao_all {s : State} {args : Array Value} (ht2 : ∀ w ∈ lw_tbl, w.before args s = true) : ∀ C ∈ aoL, va_AO C s := by
  intro C hC
  simp only [aoL, List.mem_cons, List.not_mem_nil, or_false] at hC
  rcases hC with rfl | rfl | rfl | rfl | rfl | rfl
  · exact va_AO.of (ht2 _ aol_0)
  · exact va_AO.of (ht2 _ aol_1)
  · exact va_AO.of (ht2 _ aol_3)
  · exact va_AO.of (ht2 _ aol_2)
  · exact va_AO.of (ht2 _ aol_4)
  · exact va_AO.of (ht2 _ aol_5)
theorem nw_onT {w : Cond} (h : nw w = true) : w.onTables = true := by
  cases w <;> first | rfl | cases h
theorem sy_ev {s : State} {args : Array Value} (hF : ∀ c ∈ FLN, c.before args s = true) (i : Nat) (hi : i < 74) : ∃ a : Nat, (syTm i).eval args s none [] s = some (.ref a) := by
  obtain ⟨a, c, cell, k, h1, -⟩ := Cond.exactly_spec (args := args) (first := s) (o := none) (s := s) (idx := []) (hF _ (fl_ex i hi))
  exact ⟨a, h1⟩
theorem syO_inj : ∀ i, i < 74 → ∀ j, j < 74 → syO.getD i 0 = syO.getD j 0 → i = j := by decide +kernel
theorem fld_ev {args : Array Value} {s : State} {t u : Term} {o n d : String} (h : t.eval args s none [] s = u.eval args s none [] s) : (Term.field t o n d).eval args s none [] s = (Term.field u o n d).eval args s none [] s := by
  simp only [Term.eval, h]
theorem elm_ev {args : Array Value} {s : State} {t u i : Term} (h : t.eval args s none [] s = u.eval args s none [] s) : (Term.elem t i).eval args s none [] s = (Term.elem u i).eval args s none [] s := by
  simp only [Term.eval, h]
theorem len_ev {args : Array Value} {s : State} {t u : Term} (h : t.eval args s none [] s = u.eval args s none [] s) : (Term.length t).eval args s none [] s = (Term.length u).eval args s none [] s := by
  simp only [Term.eval, h]
theorem sy_ne {s : State} {args : Array Value} (hF : ∀ c ∈ FLN, c.before args s = true) (i j : Nat) (hi : i < 74) (hj : j < 74) (hij : i ≠ j) : (Cond.not (.eq (syTm i) (syTm j))).before args s = true := by
  obtain ⟨a, ha⟩ := sy_ev hF i hi
  obtain ⟨b, hb⟩ := sy_ev hF j hj
  refine not_eq ha hb fun e => hij (syO_inj i hi j hj ?_)
  have h1 := va_eqv (hF _ (fl_ord i hi)) rfl
  have h2 := va_eqv (hF _ (fl_ord j hj)) rfl
  rw [fld_ev (u := syTm j) (by rw [ha, hb, e]), h2] at h1
  exact (Value.int.inj (Option.some.inj h1)).symm
theorem tx_ev {s : State} {args : Array Value} (hF : ∀ c ∈ FLN, c.before args s = true) (i : Nat) (hi : i < 70) : ∃ a : Nat, (caT i).eval args s none [] s = some (.ref a) := by
  obtain ⟨a, c, cell, k, h1, -⟩ := Cond.exactly_spec (args := args) (first := s) (o := none) (s := s) (idx := []) (hF _ (fl_sx i hi))
  exact ⟨a, h1⟩
set_option maxRecDepth 100000 in
theorem txt_inj : ∀ i, i < 70 → ∀ j, j < 70 → i ≠ j → txN.getD i 0 ≠ txN.getD j 0 ∨ ∃ k, k < txN.getD i 0 ∧ (txI.getD i []).getD k 0 ≠ (txI.getD j []).getD k 0 := by decide +kernel
theorem txN_le : ∀ i, i < 70 → txN.getD i 0 < 100 := by decide +kernel
theorem tx_ne {s : State} {args : Array Value} (hF : ∀ c ∈ FLN, c.before args s = true) (i j : Nat) (hi : i < 70) (hj : j < 70) (hij : i ≠ j) : (Cond.not (.eq (caT i) (caT j))).before args s = true := by
  obtain ⟨a, ha⟩ := tx_ev hF i hi
  obtain ⟨b, hb⟩ := tx_ev hF j hj
  refine not_eq ha hb fun e => ?_
  have he : (caT i).eval args s none [] s = (caT j).eval args s none [] s := by rw [ha, hb, e]
  have hv := fld_ev (o := "java/lang/String") (n := "value") (d := "[B") he
  have l1 := va_eqv (hF _ (fl_sl i hi)) rfl
  have l2 := va_eqv (hF _ (fl_sl j hj)) rfl
  rw [len_ev hv, l2] at l1
  have hl : Int32.ofNat (txN.getD j 0) = Int32.ofNat (txN.getD i 0) := Value.int.inj (Option.some.inj l1)
  have hn : txN.getD i 0 = txN.getD j 0 := by
    have m1 := txN_le i hi
    have m2 := txN_le j hj
    exact ((nI_eq (by omega) (by omega)).mp hl).symm
  rcases txt_inj i hi j hj hij with h | ⟨k, hk, h⟩
  · exact h hn
  · have k1 := va_eqv (hF _ (fl_se i hi k hk)) rfl
    have k2 := va_eqv (hF _ (fl_se j hj k (hn ▸ hk))) rfl
    rw [elm_ev hv, k2] at k1
    exact h (Value.int.inj (Option.some.inj k1)).symm
theorem cst_all {s : State} {args : Array Value} (hF : ∀ c ∈ FLN, c.before args s = true) (ht2 : ∀ w ∈ lw_tbl, w.before args s = true) : ∃ ad : Nat → Nat → Nat, Cst ad (fun q => s.heap.size ≤ q) s s.heap := by
  have hA : ∀ a : Nat, a < s.heap.size → ¬ (fun q => s.heap.size ≤ q) a := fun a h => Nat.not_le.mpr h
  obtain ⟨adK, adV, hS, hSe⟩ := vk_Sof (N := 70) (tm := caT) (len := txN) (byt := txI) (fun i hi => Nat.lt_of_lt_of_le (txN_le i hi) (by decide)) (fun i hi => hF _ (fl_sx i hi)) (fun i hi => hF _ (fl_sc i hi)) (fun i hi => hF _ (fl_sa i hi)) (fun i hi => hF _ (fl_sl i hi)) (fun i hi j hj => hF _ (fl_se i hi j hj)) (fun i j hi hj hij => Or.inl (tx_ne hF i j hi hj hij)) hA
  obtain ⟨adS, hE, hEe⟩ := va_Enof2 (E := "PinEngines$Symbol") (d := "LPinEngines$Symbol;") (nm := syN) (F := syF) (A := fun q => s.heap.size ≤ q) (args := args) (s := s) (fun i hi => ht2 _ (tl_sy i hi)) (ht2 _ tl_t1i) (fun i hi => hF _ (fl_ex i hi))
    (fun q hq i hi => by
      simp only [syF, List.mem_cons, List.not_mem_nil, or_false] at hq
      rcases hq with rfl | rfl
      · exact hF _ (fl_ord i hi)
      · exact hF _ (fl_rol i hi)) (fun i j hi hj hij => Or.inl (sy_ne hF i j hi hj hij)) hA
  have hsR : ∀ i, i < 74 → (Term.string "PinEngines$Symbol" (syS.getD i 0)).eval args s none [] s = some (.ref (adK (syT.getD i 0))) := fun i hi => by
    rcases fl_sR i hi with h | h
    · rw [h]; exact hSe _ (syT_lt i)
    · exact eqv2 (hF _ h) (hSe _ (syT_lt i))
  have hEf := va_Efof (N := 74) (E := "PinEngines$Symbol") (d0 := "LPinEngines$Symbol;") (o := "PinEngines$Symbol") (n := "text") (d := "Ljava/lang/String;") (nm := syN) (v := fun i => .ref (adK (syT.getD i 0))) (tm := fun i => .string "PinEngines$Symbol" (syS.getD i 0)) (ad := adS) (A := fun q => s.heap.size ≤ q) hEe (fun i hi => hF _ (fl_txt i hi)) hsR hA
  obtain ⟨a3, e3, T3⟩ := va_Tof (N := 74) (f := fun i => .ref (adS i)) (by decide) (hF _ fl_c5) (va_eqv (hF _ fl_c6) rfl) (fun j hj => va_eqv (hF _ (fl_all j hj)) (hEe j hj)) hA
  obtain ⟨a4, e4, T4⟩ := va_Tof (N := 74) (f := fun i => .int (smL.getD i 0)) (by decide) (hF _ fl_c7) (va_eqv (hF _ fl_c8) rfl) (fun j hj => va_eqv (hF _ (fl_map j hj)) rfl) hA
  obtain ⟨a6, e6, T6⟩ := va_Tof (N := 100) (f := fun i => .int (nI (48 + i % 10))) (by decide) (hF _ fl_c9) (va_eqv (hF _ fl_c10) rfl) (fun j hj => va_eqv (hF _ (fl_d1 j hj)) rfl) hA
  obtain ⟨a7, e7, T7⟩ := va_Tof (N := 100) (f := fun i => .int (nI (48 + i / 10))) (by decide) (hF _ fl_c11) (va_eqv (hF _ fl_c12) rfl) (fun j hj => va_eqv (hF _ (fl_d2 j hj)) rfl) hA
  refine ⟨fun κ n => if κ = 50 then adS n else if κ = 51 then adK n else if κ = 52 then adV n else if κ = 53 then a3 else if κ = 54 then a4 else if κ = 56 then a6 else a7, ?_⟩
  refine ⟨hE, hEf, va_Zref (ht2 _ tl_t1) (ht2 _ tl_t1i) e3 hA, T3, va_Zref (ht2 _ tl_t2) (ht2 _ tl_t2i) e4 hA, T4, va_Zof (ht2 _ tl_t3) (ht2 _ tl_t3i) (va_eqv (hF _ fl_c1) rfl) hA, va_Zqof (ht2 _ tl_t4) (ht2 _ tl_t4i) (hF _ fl_c2) hA, ⟨va_Zref (ht2 _ tl_t5) (ht2 _ tl_t5i) e6 hA, T6, va_Zref (ht2 _ tl_t6) (ht2 _ tl_t6i) e7 hA, T7, vx_Zqof (ht2 _ tl_t7) (ht2 _ tl_t7i) (hF _ fl_c3) hA, vx_Zqof (ht2 _ tl_t8) (ht2 _ tl_t8i) (hF _ fl_c4) hA, va_Nc.of (hF _ fl_c13)⟩, hS, fun q hq => ?_, fun w hw => va_Nw.of (nw_onT (List.mem_filter.mp hw).2) (ht2 _ (List.mem_filter.mp hw).1)⟩
  have h1 := fl_mR q hq
  refine vk_R.of (ht2 _ (tl_sR q hq)) ?_
  rcases h1.1 with h | h
  · rw [h]; exact hSe _ h1.2
  · exact va_eqv (hF _ h) (hSe _ h1.2)
