/-! the law's switch -/
theorem law_sw {Inv : Mem → Prop} (hall : ∀ j, j < 45 → CaseOK Inv (lawPcs.getD j 0)) {X : CX} (hT : (xl X).stackTraces = false) (V : 2 ≤ xv X) (C : Ok X RL cL_law) (R0 : Rm X 2048 84000 601024 7293034) (hN : ∀ i : Nat, i < 8 → i < xn X) {bs SL : Nat} {xs : Nat → Int32} (S : Scr X bs SL xs) {ca sl k : Nat} (c1 : ca + 20 ≤ 601024) (c2 : sl + 10000 ≤ 7293034) (c3 : 6 * k + 6 ≤ SL) (c4 : SL ≤ 3072) {μ : Mem} (hI : Inv μ)
    (H0 : ∀ (w : Nat) (μ' : Mem), Ok (sx w X) RL cL_law → Inv μ' → J (sx w X) (ca + 20) (sl + 10000) μ' 2636 (L4 X bs (nI (6 * k))) []) (x : Int32) : J X ca sl μ 40 (L4 X bs (nI (6 * k))) [.int x] := by
  by_cases hx : x.toInt < 0 ∨ 44 < x.toInt
  · refine s_tout (r0 := ()) (o := some ()) (tgt := 2636) C dL_law_40 hx (by decide) (fun _ => ?_) rfl
    have h0 := H0 (xa X 33 0) μ (by rw [sx_self]; exact C) hI
    rw [sx_self] at h0
    exact j_wid (by omega) (by omega) h0
  · have h1 : ¬ x.toInt < 0 := fun h => hx (Or.inl h)
    have h2 : ¬ 44 < x.toInt := fun h => hx (Or.inr h)
    have hj : x.toInt.toNat < 45 := by omega
    refine s_tin (r0 := ()) (o := some ()) (tgt := lawPcs.getD x.toInt.toNat 0) (v := x) (off := (lawPcs.getD x.toInt.toNat 0 : Nat) - 40) C dL_law_40 rfl h1 h2 (by rw [Int.sub_zero]; exact lsw_at _ hj) (by omega) (fun _ => ?_) rfl
    exact hall _ hj X hT V C R0 hN bs SL xs S ca sl k c1 c2 c3 c4 μ hI H0
