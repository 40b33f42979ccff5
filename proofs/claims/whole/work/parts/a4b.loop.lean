/-! THE LAW'S LOOP, its turns -/
theorem room_step {a c n T : Nat} (h : a + c * (n + 1) ≤ T) : a + c ≤ T ∧ (a + c) + c * n ≤ T := by
  rw [Nat.mul_succ] at h
  exact ⟨Nat.le_trans (Nat.add_le_add_left (Nat.le_add_left c (c * n)) a) h, by rw [Nat.add_assoc, Nat.add_comm c]; exact h⟩
theorem law_loop {Inv : Mem → Prop} (hall : ∀ j, j < 45 → CaseOK Inv (lawPcs.getD j 0)) {bs SL : Nat} {xs : Nat → Int32} (c4 : SL ≤ 3072) : ∀ (n : Nat) (X : CX) (_ : (xl X).stackTraces = false) (_ : 2 ≤ xv X) (_ : Ok X RL cL_law) (_ : Rm X 2048 84000 601024 7293034) (_ : ∀ i : Nat, i < 8 → i < xn X) (_ : Scr X bs SL xs) (_ : LawEnd X bs) (ca sl k : Nat) (_ : ca + 20 * n ≤ 601024) (_ : sl + 10000 * n ≤ 7293034) (_ : 6 * k ≤ SL) (_ : SL < 6 * (k + n) + 6) (μ : Mem) (_ : Inv μ), J X ca sl μ 23 (L4 X bs (nI (6 * k))) [] := by
  intro n
  induction n with
  | zero =>
    intro X hT V C R0 hN S E ca sl k h1 h2 h3 h5 μ hI
    have g : G X () ca sl μ 23 (L4 X bs (nI (6 * k))) [] (if nI SL - 6 < nI (6 * k) then some () else some ()) := by
      refine s_iload C dL_law_23 0 rfl ?_
      refine s_aload_n C dL_law_25 rfl 1 rfl ?_
      refine s_slen C S dL_law_26 ?_
      refine s_bipush (v := (6 : Int32)) C dL_law_27 (by decide) ?_
      refine s_isub C dL_law_29 ?_
      refine s_icmp_gt (tgt := 2642) C dL_law_30 (by decide) (fun _ => ?_) (fun hc => ?_)
      · refine s_iconst (v := (1 : Int32)) C dL_law_2642 (by decide) ?_
        exact fun _ => law_exit C E (Nat.le_trans (Nat.le_add_right _ _) h1) (Nat.le_trans (Nat.le_add_right _ _) h2)
      · exact absurd (ge6 c4 h3 hc) (by omega)
    exact g (by split <;> rfl)
  | succ n ih =>
    intro X hT V C R0 hN S E ca sl k h1 h2 h3 h5 μ hI
    have g : G X () ca sl μ 23 (L4 X bs (nI (6 * k))) [] (if nI SL - 6 < nI (6 * k) then some () else ckI (nI (6 * k)) SL (some ())) := by
      refine s_iload C dL_law_23 0 rfl ?_
      refine s_aload_n C dL_law_25 rfl 1 rfl ?_
      refine s_slen C S dL_law_26 ?_
      refine s_bipush (v := (6 : Int32)) C dL_law_27 (by decide) ?_
      refine s_isub C dL_law_29 ?_
      refine s_icmp_gt (tgt := 2642) C dL_law_30 (by decide) (fun _ => ?_) (fun hc => ?_)
      · refine s_iconst (v := (1 : Int32)) C dL_law_2642 (by decide) ?_
        exact fun _ => law_exit C E (Nat.le_trans (Nat.le_add_right _ _) h1) (Nat.le_trans (Nat.le_add_right _ _) h2)
      · have c3 := ge6 c4 h3 hc
        have c1 := (room_step h1).1
        have c2 := (room_step h2).1
        refine s_aload_n C dL_law_33 rfl 1 rfl ?_
        refine s_iload C dL_law_34 0 rfl ?_
        refine s_sld C S dL_law_36 ?_
        refine s_bipush (v := (63 : Int32)) C dL_law_37 (by decide) ?_
        refine s_iand C dL_law_39 ?_
        refine fun _ => law_sw (ca := ca) (sl := sl) (k := k) (μ := μ) hall hT V C R0 hN S c1 c2 c3 c4 hI (fun w μ' Cw hI' => ?_) _
        have e4 := L4_sx (X := X) (w := w) (bs := bs) (i := nI (6 * k))
        rw [← e4]
        have g2 : G (sx w X) () (ca + 20) (sl + 10000) μ' 2636 (L4 (sx w X) bs (nI (6 * k))) [] (some ()) := by
          refine s_iinc (j := 0) (v := nI (6 * (k + 1))) Cw dL_law_2636 rfl (nI_add (6 * k) 6) (by rw [xn_sx]; exact hN 4 (by decide)) rfl ?_
          refine s_goto (tgt := 23) Cw dL_law_2639 (by decide) ?_
          exact fun _ => ih (sx w X) (by rw [xl_sx]; exact hT) (by rw [xv_sx]; exact V) Cw (rm_sx R0) (fun i hi => by rw [xn_sx]; exact hN i hi) (scr_sx S) (lawEnd_sx E) (ca + 20) (sl + 10000) (k + 1) (room_step h1).2 (room_step h2).2 (by omega) (by omega) μ' hI'
        exact g2 rfl
    refine g ?_
    split
    · rfl
    · rename_i hc
      exact ckI_nI (by have := ge6 c4 h3 hc; omega) (by omega)
