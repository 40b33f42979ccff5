/-! THE LAW'S LOOP ONCE MORE, for cases that rest on the private methods too -/
def CaseOKP (Inv : Mem → Prop) (pcj : Nat) : Prop := ∀ (X : CX) (_ : (xl X).stackTraces = false) (_ : 2 ≤ xv X) (_ : Ok X RL cL_law) (_ : PV X) (_ : Rm X 2048 84000 601024 7293034) (_ : ∀ i : Nat, i < 8 → i < xn X) (bs SL : Nat) (xs : Nat → Int32) (_ : Scr X bs SL xs) (ca sl k : Nat) (_ : ca + 20 ≤ 601024) (_ : sl + 10000 ≤ 7293034) (_ : 6 * k + 6 ≤ SL) (_ : SL ≤ 3072) (μ : Mem) (_ : Inv μ)
  (_ : ∀ (w : Nat) (μ' : Mem), Ok (sx w X) RL cL_law → Inv μ' → J (sx w X) (ca + 20) (sl + 10000) μ' 2636 (L4 X bs (nI (6 * k))) []), J X ca sl μ pcj (L4 X bs (nI (6 * k))) []
theorem caseP {Inv : Mem → Prop} {pcj : Nat} (h : CaseOK Inv pcj) : CaseOKP Inv pcj := fun X hT V C _ R0 hN bs SL xs S ca sl k c1 c2 c3 c4 μ hI H0 => h X hT V C R0 hN bs SL xs S ca sl k c1 c2 c3 c4 μ hI H0
theorem law_swP {Inv : Mem → Prop} (hall : ∀ j, j < 45 → CaseOKP Inv (lawPcs.getD j 0)) {X : CX} (hT : (xl X).stackTraces = false) (V : 2 ≤ xv X) (C : Ok X RL cL_law) (Pv : PV X) (R0 : Rm X 2048 84000 601024 7293034) (hN : ∀ i : Nat, i < 8 → i < xn X) {bs SL : Nat} {xs : Nat → Int32} (S : Scr X bs SL xs) {ca sl k : Nat} (c1 : ca + 20 ≤ 601024) (c2 : sl + 10000 ≤ 7293034) (c3 : 6 * k + 6 ≤ SL) (c4 : SL ≤ 3072) {μ : Mem} (hI : Inv μ)
    (H0 : ∀ (w : Nat) (μ' : Mem), Ok (sx w X) RL cL_law → Inv μ' → J (sx w X) (ca + 20) (sl + 10000) μ' 2636 (L4 X bs (nI (6 * k))) []) (x : Int32) : J X ca sl μ 40 (L4 X bs (nI (6 * k))) [.int x] := by
  by_cases hx : x.toInt < 0 ∨ 44 < x.toInt
  · refine s_tout (r0 := ()) (o := some ()) (tgt := 2636) C dL_law_40 hx (by decide) (fun _ => ?_) rfl
    have h0 := H0 (xa X 33 0) μ (by rw [sx_self]; exact C) hI
    rw [sx_self] at h0
    exact j_wid (by omega) (by omega) h0
  · have h1 : ¬ x.toInt < 0 := fun h => hx (Or.inl h)
    have h2 : ¬ 44 < x.toInt := fun h => hx (Or.inr h)
    have hj : x.toInt.toNat < 45 := by omega
    refine s_tin (r0 := ()) (o := some ()) (tgt := lawPcs.getD x.toInt.toNat 0) (v := x) (off := (lawPcs.getD x.toInt.toNat 0 : Nat) - 40) C dL_law_40 rfl h1 h2 (by rw [Int.sub_zero]; exact lsw_at _ hj) (by omega) (fun _ => ?_) rfl
    exact hall _ hj X hT V C Pv R0 hN bs SL xs S ca sl k c1 c2 c3 c4 μ hI H0
theorem law_loopP {Inv : Mem → Prop} (hall : ∀ j, j < 45 → CaseOKP Inv (lawPcs.getD j 0)) {bs SL : Nat} {xs : Nat → Int32} (c4 : SL ≤ 3072) : ∀ (n : Nat) (X : CX) (_ : (xl X).stackTraces = false) (_ : 2 ≤ xv X) (_ : Ok X RL cL_law) (_ : PV X) (_ : Rm X 2048 84000 601024 7293034) (_ : ∀ i : Nat, i < 8 → i < xn X) (_ : Scr X bs SL xs) (_ : LawEnd X bs) (ca sl k : Nat) (_ : ca + 20 * n ≤ 601024) (_ : sl + 10000 * n ≤ 7293034) (_ : 6 * k ≤ SL) (_ : SL < 6 * (k + n) + 6) (μ : Mem) (_ : Inv μ), J X ca sl μ 23 (L4 X bs (nI (6 * k))) [] := by
  intro n
  induction n with
  | zero =>
    intro X hT V C Pv R0 hN S E ca sl k h1 h2 h3 h5 μ hI
    have g : G X () ca sl μ 23 (L4 X bs (nI (6 * k))) [] (if nI SL - 6 < nI (6 * k) then some () else some ()) := by
      refine s_iload C dL_law_23 0 rfl ?_
      refine s_aload_n C dL_law_25 rfl 1 rfl ?_
      refine s_slen C S dL_law_26 ?_
      refine s_bipush (v := (6 : Int32)) C dL_law_27 (by decide) ?_
      refine s_isub C dL_law_29 ?_
      refine s_icmp_gt (tgt := 2642) C dL_law_30 (by decide) (fun _ => ?_) (fun hc => ?_)
      · refine s_iconst (v := (1 : Int32)) C dL_law_2642 (by decide) ?_
        exact fun _ => law_exit C E (Nat.le_trans (Nat.le_add_right _ _) h1) (Nat.le_trans (Nat.le_add_right _ _) h2)
      · exact absurd (ge6 c4 h3 hc) (by omega)
    exact g (by split <;> rfl)
  | succ n ih =>
    intro X hT V C Pv R0 hN S E ca sl k h1 h2 h3 h5 μ hI
    have g : G X () ca sl μ 23 (L4 X bs (nI (6 * k))) [] (if nI SL - 6 < nI (6 * k) then some () else ckI (nI (6 * k)) SL (some ())) := by
      refine s_iload C dL_law_23 0 rfl ?_
      refine s_aload_n C dL_law_25 rfl 1 rfl ?_
      refine s_slen C S dL_law_26 ?_
      refine s_bipush (v := (6 : Int32)) C dL_law_27 (by decide) ?_
      refine s_isub C dL_law_29 ?_
      refine s_icmp_gt (tgt := 2642) C dL_law_30 (by decide) (fun _ => ?_) (fun hc => ?_)
      · refine s_iconst (v := (1 : Int32)) C dL_law_2642 (by decide) ?_
        exact fun _ => law_exit C E (Nat.le_trans (Nat.le_add_right _ _) h1) (Nat.le_trans (Nat.le_add_right _ _) h2)
      · have c3 := ge6 c4 h3 hc
        have c1 := (room_step h1).1
        have c2 := (room_step h2).1
        refine s_aload_n C dL_law_33 rfl 1 rfl ?_
        refine s_iload C dL_law_34 0 rfl ?_
        refine s_sld C S dL_law_36 ?_
        refine s_bipush (v := (63 : Int32)) C dL_law_37 (by decide) ?_
        refine s_iand C dL_law_39 ?_
        refine fun _ => law_swP (ca := ca) (sl := sl) (k := k) (μ := μ) hall hT V C Pv R0 hN S c1 c2 c3 c4 hI (fun w μ' Cw hI' => ?_) _
        have e4 := L4_sx (X := X) (w := w) (bs := bs) (i := nI (6 * k))
        rw [← e4]
        have g2 : G (sx w X) () (ca + 20) (sl + 10000) μ' 2636 (L4 (sx w X) bs (nI (6 * k))) [] (some ()) := by
          refine s_iinc (j := 0) (v := nI (6 * (k + 1))) Cw dL_law_2636 rfl (nI_add (6 * k) 6) (by rw [xn_sx]; exact hN 4 (by decide)) rfl ?_
          refine s_goto (tgt := 23) Cw dL_law_2639 (by decide) ?_
          exact fun _ => ih (sx w X) (by rw [xl_sx]; exact hT) (by rw [xv_sx]; exact V) Cw (pv_sx Pv) (rm_sx R0) (fun i hi => by rw [xn_sx]; exact hN i hi) (scr_sx S) (lawEnd_sx E) (ca + 20) (sl + 10000) (k + 1) (room_step h1).2 (room_step h2).2 (by omega) (by omega) μ' hI'
        exact g2 rfl
    refine g ?_
    split
    · rfl
    · rename_i hc
      exact ckI_nI (by have := ge6 c4 h3 hc; omega) (by omega)
