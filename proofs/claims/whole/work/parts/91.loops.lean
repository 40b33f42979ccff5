/-! the texts of a cycle, cut -/
def cA (fu : Nat) : Mem → Int32 → Int32 → Int32 → Int32 → Option (Int32 × Mem) :=
  lp (fun _ _ _ _ _ => none) fu (fun (j61 : Mem → Int32 → Int32 → Int32 → Int32 → Option (Int32 × Mem)) (μ1 : Mem) (x2 x3 x4 x5 : Int32) =>
    if (4 : Int32) ≤ x5 then (ckB (μ1.2.1 22 0 1) 13 <| ckB (μ1.2.1 22 0 1) 13 <| bnd (fX3_endCycle fu (μ1.2.1 22 0 1) (wI μ1 12 (μ1.2.1 22 0 1) 4 (((μ1.1 22 0 3) &&& ((μ1.1 22 0 5) ^^^ (-1 : Int32))) ||| (μ1.1 22 0 4)))) fun _ μ12 => some (x4, μ12))
    else if ¬ ((x2 >>> (x5 &&& 31)) &&& (1 : Int32)) = (1 : Int32) then j61 μ1 x2 x3 x4 (x5 + (1 : Int32)) else ckB (μ1.2.1 22 0 1) 13 <| ckI x5 (4) <| ckB (μ1.2.1 22 0 0) 2 <| ckI x5 (4) <|
      if ¬ x5 = x3 then (bnd (fX9_doTick 0 (4 * μ1.2.1 22 0 1 + x5.toNatClampNeg) (4 * μ1.2.1 22 0 0 + x5.toNatClampNeg) (0 : Int32) μ1) fun x32 μ31 => if x32 = 0 then j61 μ31 x2 x3 x4 (x5 + (1 : Int32)) else j61 μ31 x2 x3 (x4 + (1 : Int32)) (x5 + (1 : Int32)))
      else (bnd (fX9_doTick 0 (4 * μ1.2.1 22 0 1 + x5.toNatClampNeg) (4 * μ1.2.1 22 0 0 + x5.toNatClampNeg) (1 : Int32) μ1) fun x32 μ31 => if x32 = 0 then j61 μ31 x2 x3 x4 (x5 + (1 : Int32)) else j61 μ31 x2 x3 (x4 + (1 : Int32)) (x5 + (1 : Int32))))
theorem sim_eq {fu i : Nat} {μ : Mem} : fX9_simulateCycle fu 0 i μ = (ckB ((wR μ 22 0 1 i).2.1 22 0 1) 13 <| bnd (fX3_applyScheduled fu ((wR μ 22 0 1 i).2.1 22 0 1) (wR μ 22 0 1 i)) fun _ μ48 => ckB (μ48.2.1 22 0 1) 13 <| bnd (fX3_levels (μ48.2.1 22 0 1) μ48) fun x52 μ51 => ckB (μ51.2.1 22 0 1) 13 <|
    bnd (fX9_tickingEngines fu 0 (wI (wI (wI (wI μ51 22 0 2 x52) 22 0 3 ((wI μ51 22 0 2 x52).1 12 (μ51.2.1 22 0 1) 4)) 22 0 4 (0 : Int32)) 22 0 5 (0 : Int32))) fun x60 μ59 => bnd (fX9_grantPort fu 0 x60 μ59) fun x62 μ61 => cA fu μ61 x60 x62 (0 : Int32) (0 : Int32)) := by
  unfold fX9_simulateCycle cA
  simp only [jn_eq, nm_eq, if_pos trivial, if_neg ne10]
  rfl
def mD (fu : Nat) : Mem → Int32 → Option (Unit × Mem) :=
  lp (fun _ _ => none) fu (fun (j77 : Mem → Int32 → Option (Unit × Mem)) (μ10 : Mem) (x11 : Int32) =>
    if (8 : Int32) ≤ x11 then (bnd (fX13_recordLevels fu 0 μ10) fun _ μ13 => ckI (1 : Int32) (if 0 = 4 then 7000 else 700) <| ckI (1 : Int32) (if 0 = 4 then 7000 else 700) <| some ((), wI μ13 27 0 (1 : Int32).toNatClampNeg ((μ13.1 27 0 (1 : Int32).toNatClampNeg) + (1 : Int32))))
    else if ¬ (((μ10.1 26 0 16) >>> (x11 &&& 31)) &&& (1 : Int32)) = (1 : Int32) then (
      if ¬ (((μ10.1 26 0 17) >>> (x11 &&& 31)) &&& (1 : Int32)) = (1 : Int32) then (ckI ((100 : Int32) + x11) (if 0 = 4 then 7000 else 700) <| ckI ((100 : Int32) + x11) (if 0 = 4 then 7000 else 700) <| j77 (wI μ10 27 0 ((100 : Int32) + x11).toNatClampNeg (μ10.1 27 0 ((100 : Int32) + x11).toNatClampNeg)) (x11 + (1 : Int32)))
      else (ckI ((100 : Int32) + x11) (if 0 = 4 then 7000 else 700) <| j77 (wI μ10 27 0 ((100 : Int32) + x11).toNatClampNeg (0 : Int32)) (x11 + (1 : Int32))))
    else (ckI ((100 : Int32) + x11) (if 0 = 4 then 7000 else 700) <| j77 (wI μ10 27 0 ((100 : Int32) + x11).toNatClampNeg (1 : Int32)) (x11 + (1 : Int32))))
def mC (fu : Nat) : Mem → Int32 → Option (Unit × Mem) :=
  lp (fun _ _ => none) fu (fun (j59 : Mem → Int32 → Option (Unit × Mem)) (μ7 : Mem) (x8 : Int32) => if (4 : Int32) ≤ x8 then mD fu μ7 (0 : Int32) else bnd (fX13_writeAll fu 0 x8 μ7) fun _ μ25 => j59 μ25 (x8 + (1 : Int32)))
def mB (fu : Nat) : Mem → Int32 → Option (Unit × Mem) :=
  lp (fun _ _ => none) fu (fun (j32 : Mem → Int32 → Option (Unit × Mem)) (μ4 : Mem) (x5 : Int32) => if (4 : Int32) ≤ x5 then mC fu μ4 (0 : Int32) else ckI x5 (4) <| if (μ4.1 29 0 x5.toNatClampNeg) = 0 then j32 μ4 (x5 + (1 : Int32)) else bnd (fX13_tick fu 0 x5 μ4) fun _ μ31 => j32 μ31 (x5 + (1 : Int32)))
def mA (fu : Nat) : Mem → Int32 → Option (Unit × Mem) :=
  lp (fun _ _ => none) fu (fun (j10 : Mem → Int32 → Option (Unit × Mem)) (μ1 : Mem) (x2 : Int32) => if (4 : Int32) ≤ x2 then (bnd (fX13_givePort fu 0 μ1) fun _ μ32 => mB fu μ32 (0 : Int32)) else bnd (fX13_countOn 0 x2 μ1) fun _ μ33 => j10 μ33 (x2 + (1 : Int32)))
theorem pass_eq {fu : Nat} {μ : Mem} : fX13_passCycle fu 0 μ = bnd (fX13_applyScheduled fu 0 μ) fun _ μ35 => bnd (fX13_readAll fu 0 μ35) fun _ μ36 => mA fu μ36 (0 : Int32) := by
  unfold fX13_passCycle mA mB mC mD
  simp only [jn_eq, nm_eq]
