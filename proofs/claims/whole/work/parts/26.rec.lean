/-! methods that call one another, by depth -/
def sX13_digits (rec : Nat → Nat → Int32 → Mem → Option (Unit × Mem)) (n0 : Nat) (p1 : Int32) (μ : Mem) : Option (Unit × Mem) :=
  jn (fun (μ1 : Mem) =>
    ckD (10 : Int32) <|
    ckI (μ1.1 26 n0 41) (mil.getD 13 0) <|
    nm (wI μ1 28 13 (μ1.1 26 n0 41).toNatClampNeg ((48 : Int32) + (p1 - p1 / (10 : Int32) * (10 : Int32)))) fun μ2 =>
    nm (wI μ2 26 n0 41 ((μ2.1 26 n0 41) + (1 : Int32))) fun μ3 =>
    some ((), μ3)
  ) fun j14 =>
  if p1 ≤ (9 : Int32) then (
    j14 μ
  ) else (
    ckD (10 : Int32) <|
    bnd (rec 0 n0 (p1 / (10 : Int32)) μ) fun _ μ5 =>
    j14 μ5
  )
def tX13d (rec : Nat → Nat → Int32 → Mem → Option (Unit × Mem)) : Nat → Nat → Int32 → Mem → Option (Unit × Mem) := fun tag => match tag with
  | _ => sX13_digits rec
def fgX13d (d : Nat) : Nat → Nat → Int32 → Mem → Option (Unit × Mem) := lp (fun _ _ _ _ => none) d (tX13d)
set_option maxHeartbeats 4000000 in
set_option maxRecDepth 100000 in
theorem kgX13d : ∀ (d : Nat) (l : Launch), (∀ (n0 : Nat) (g0 : n0 < 1) (p1 : Int32), Kon 1 l yX13_digits cX13_digits 2 (none) (d + 0) (21 * d + 0) 0 0 (fun ad => [.ref (ad 26 n0), .int p1]) rvV (fun μ => fgX13d d 0 n0 p1 μ)) := by
  intro d
  induction d with
  | zero =>
    intro l
    exact fun n0 g0 p1 vv hvv D ad ty μ sz r h => nomatch (show (none : Option (Unit × Mem)) = some r from h)
  | succ d ih =>
    intro l
    refine fun n0 g0 p1 => ?_
    · refine kon_of (by decide) (fun _ => Nat.le_of_ble_eq_true rfl) (fun X r0 μ hXl hXn V C E => ?_)
      have hN : ∀ i : Nat, i < 2 → i < xn X := fun i h => hXn.symm ▸ h
      have R0 := fen_rm E
      show G X r0 0 0 μ 0 [(0, .ref (xa X 26 n0)), (1, .int p1)] [] (sX13_digits (fgX13d d) n0 p1 μ)
      unfold sX13_digits
      refine g_jn (P := fun j14 => ∀ (μ1 : Mem), G X r0 0 0 μ1 14 [(0, .ref (xa X 26 n0)), (1, .int p1)] [] (j14 μ1)) ?_ (fun j14 hj14 => ?_)
      · intro μ1
        refine s_aload_n C dX13_digits_14 rfl 0 rfl ?_
        refine s_getF C (fgX13_213_26 (Nat.le_trans (by decide) V)) g0 dX13_digits_15 ?_
        refine s_aload_n C dX13_digits_18 rfl 0 rfl ?_
        refine s_getI C (fgX13_630_26 (Nat.le_trans (by decide) V)) g0 dX13_digits_19 ?_
        refine s_bipush (v := (48 : Int32)) C dX13_digits_22 (by decide) ?_
        refine s_iload_n C dX13_digits_24 rfl 1 rfl ?_
        refine s_bipush (v := (10 : Int32)) C dX13_digits_25 (by decide) ?_
        refine s_irem C dX13_digits_27 ?_
        refine s_iadd C dX13_digits_28 ?_
        refine s_iast C (ag28 (Nat.le_trans (by decide) V)) (by decide) dX13_digits_29 ?_
        refine g_nmM (fun μ2 => ?_)
        refine s_aload_n C dX13_digits_30 rfl 0 rfl ?_
        refine s_dup C dX13_digits_31 rfl ?_
        refine s_getI C (fgX13_630_26 (Nat.le_trans (by decide) V)) g0 dX13_digits_32 ?_
        refine s_iconst (v := (1 : Int32)) C dX13_digits_35 (by decide) ?_
        refine s_iadd C dX13_digits_36 ?_
        refine s_putI C (fpX13_630_26 (Nat.le_trans (by decide) V)) g0 dX13_digits_37 ?_
        refine g_nmM (fun μ3 => ?_)
        exact s_vret C E dX13_digits_40
      refine s_iload_n C dX13_digits_0 rfl 1 rfl ?_
      refine s_bipush (v := (9 : Int32)) C dX13_digits_1 (by decide) ?_
      refine s_icmp_le (tgt := 14) C dX13_digits_3 (by decide) (fun c4 => ?_) (fun c4 => ?_)
      ·
        exact g_sub [0, 1] rfl (hj14 μ)
      ·
        refine s_aload_n C dX13_digits_6 rfl 0 rfl ?_
        refine s_iload_n C dX13_digits_7 rfl 1 rfl ?_
        refine s_bipush (v := (10 : Int32)) C dX13_digits_8 (by decide) ?_
        refine s_idiv C dX13_digits_10 ?_
        refine s_callV C R0 ((ih (xl X)) n0 g0 (p1 / (10 : Int32))) V mmX13_digits miX13_digits q2828 (rc26 (Nat.le_trans (by decide) V)) g0 rfl rfl rfl (Nat.le_of_ble_eq_true rfl) ⟨by omega, by omega, by omega, by omega⟩ dX13_digits_11 (fun _ μ5 => ?_)
        refine g_st (st' := []) rfl ?_
        exact g_sub [0, 1] rfl (hj14 μ5)

def sX13_compileTest (fu : Nat) (rec : Nat → Nat → Mem → Option (Unit × Mem)) (n0 : Nat) (μ : Mem) : Option (Unit × Mem) :=
  jn (lp (fun _ => none) fu (fun j4 (μ1 : Mem) =>
    bnd (fX13_accept fu n0 56 μ1) fun x3 μ2 =>
    if x3 = 0 then (
      some ((), μ2)
    ) else (
      bnd (rec 1 n0 μ2) fun _ μ5 =>
      bnd (fX13_emit n0 (-25 : Int32) μ5) fun _ μ6 =>
      j4 μ6
    )
  )) fun j4 =>
  bnd (rec 1 n0 μ) fun _ μ7 =>
  j4 μ7
def sX13_compileConjunction (fu : Nat) (rec : Nat → Nat → Mem → Option (Unit × Mem)) (n0 : Nat) (μ : Mem) : Option (Unit × Mem) :=
  jn (lp (fun _ => none) fu (fun j4 (μ1 : Mem) =>
    bnd (fX13_accept fu n0 57 μ1) fun x3 μ2 =>
    if x3 = 0 then (
      some ((), μ2)
    ) else (
      bnd (rec 2 n0 μ2) fun _ μ5 =>
      bnd (fX13_emit n0 (-24 : Int32) μ5) fun _ μ6 =>
      j4 μ6
    )
  )) fun j4 =>
  bnd (rec 2 n0 μ) fun _ μ7 =>
  j4 μ7
def sX13_compileFactor (fu : Nat) (rec : Nat → Nat → Mem → Option (Unit × Mem)) (n0 : Nat) (μ : Mem) : Option (Unit × Mem) :=
  jn (fun (μ1 : Mem) =>
    some ((), μ1)
  ) fun j159 =>
  bnd (fX13_isWord fu n0 52 μ) fun x3 μ2 =>
  if x3 = 0 then (
    bnd (fX13_isSymbol n0 (40 : Int32) μ2) fun x6 μ5 =>
    if x6 = 0 then (
      jn (fun (μ8 : Mem) (x9 : Int32) =>
        jn (fun (μ10 : Mem) (x11 : Int32) (a12 : Nat) (x14 : Int32) =>
          bnd (fX13_check a12 x14 (1 : Int32) μ10) fun _ μ15 =>
          bnd (fX13_advance fu n0 μ15) fun _ μ16 =>
          bnd (fX13_compileValue fu n0 μ16) fun _ μ17 =>
          bnd (fX13_emit n0 x11 μ17) fun _ μ18 =>
          j159 μ18
        ) fun j142 =>
        jn (fun (μ19 : Mem) (x20 : Int32) (a21 : Nat) =>
          j142 μ19 x20 a21 (1 : Int32)
        ) fun j137 =>
        if ¬ x9 = (-22 : Int32) then (
          j137 μ8 x9 n0
        ) else (
          bnd (fX13_isSymbol n0 (62 : Int32) μ8) fun x25 μ24 =>
          if x25 = 0 then (
            j142 μ24 x9 n0 (0 : Int32)
          ) else (
            j137 μ24 x9 n0
          )
        )
      ) fun j120 =>
      bnd (fX13_compileValue fu n0 μ5) fun _ μ27 =>
      bnd (fX13_isSymbol n0 (60 : Int32) μ27) fun x29 μ28 =>
      if x29 = 0 then (
        bnd (fX13_isSymbol n0 (61 : Int32) μ28) fun x32 μ31 =>
        if x32 = 0 then (
          j120 μ31 (-22 : Int32)
        ) else (
          j120 μ31 (-21 : Int32)
        )
      ) else (
        j120 μ28 (-20 : Int32)
      )
    ) else (
      jn (fun (μ34 : Mem) =>
        bnd (fX13_expect fu n0 (41 : Int32) μ34) fun _ μ35 =>
        nm (wI μ35 26 n0 29 ((μ35.1 26 n0 29) - (1 : Int32))) fun μ36 =>
        j159 μ36
      ) fun j67 =>
      bnd (fX13_enter fu n0 μ5) fun _ μ37 =>
      if ¬ (μ37.1 26 n0 26) = 0 then (
        j67 μ37
      ) else (
        bnd (rec 0 n0 μ37) fun _ μ39 =>
        j67 μ39
      )
    )
  ) else (
    jn (fun (μ40 : Mem) =>
      bnd (fX13_emit n0 (-23 : Int32) μ40) fun _ μ41 =>
      nm (wI μ41 26 n0 29 ((μ41.1 26 n0 29) - (1 : Int32))) fun μ42 =>
      j159 μ42
    ) fun j24 =>
    bnd (fX13_enter fu n0 μ2) fun _ μ43 =>
    if ¬ (μ43.1 26 n0 26) = 0 then (
      j24 μ43
    ) else (
      bnd (rec 2 n0 μ43) fun _ μ45 =>
      j24 μ45
    )
  )
def tX13c (fu : Nat) (rec : Nat → Nat → Mem → Option (Unit × Mem)) : Nat → Nat → Mem → Option (Unit × Mem) := fun tag => match tag with
  | 0 => sX13_compileTest fu rec
  | 1 => sX13_compileConjunction fu rec
  | _ => sX13_compileFactor fu rec
def fgX13c (fu : Nat) (d : Nat) : Nat → Nat → Mem → Option (Unit × Mem) := lp (fun _ _ _ => none) d (tX13c fu)
set_option maxHeartbeats 4000000 in
set_option maxRecDepth 100000 in
theorem kgX13c (fu : Nat) : ∀ (d : Nat) (l : Launch), (∀ (n0 : Nat) (g0 : n0 < 1), Kon 1 l yX13_compileTest cX13_compileTest 1 (none) (d + 7) (21 * d + 151) 0 0 (fun ad => [.ref (ad 26 n0)]) rvV (fun μ => fgX13c fu d 0 n0 μ)) ∧
    (∀ (n0 : Nat) (g0 : n0 < 1), Kon 1 l yX13_compileConjunction cX13_compileConjunction 1 (none) (d + 7) (21 * d + 151) 0 0 (fun ad => [.ref (ad 26 n0)]) rvV (fun μ => fgX13c fu d 1 n0 μ)) ∧
    (∀ (n0 : Nat) (g0 : n0 < 1), Kon 1 l yX13_compileFactor cX13_compileFactor 2 (none) (d + 7) (21 * d + 151) 0 0 (fun ad => [.ref (ad 26 n0)]) rvV (fun μ => fgX13c fu d 2 n0 μ)) := by
  intro d
  induction d with
  | zero =>
    intro l
    refine ⟨fun n0 g0 vv hvv D ad ty μ sz r h => ?_, fun n0 g0 vv hvv D ad ty μ sz r h => ?_, fun n0 g0 vv hvv D ad ty μ sz r h => ?_⟩
    · exact nomatch (show (none : Option (Unit × Mem)) = some r from h)
    · exact nomatch (show (none : Option (Unit × Mem)) = some r from h)
    · exact nomatch (show (none : Option (Unit × Mem)) = some r from h)
  | succ d ih =>
    intro l
    refine ⟨fun n0 g0 => ?_, fun n0 g0 => ?_, fun n0 g0 => ?_⟩
    · refine kon_of (by decide) (fun _ => Nat.le_of_ble_eq_true rfl) (fun X r0 μ hXl hXn V C E => ?_)
      have hN : ∀ i : Nat, i < 1 → i < xn X := fun i h => hXn.symm ▸ h
      have R0 := fen_rm E
      show G X r0 0 0 μ 0 [(0, .ref (xa X 26 n0))] [] (sX13_compileTest fu (fgX13c fu d) n0 μ)
      unfold sX13_compileTest
      refine g_jl (P := fun j4 => ∀ (μ1 : Mem), G X r0 0 0 μ1 4 [(0, .ref (xa X 26 n0))] [] (j4 μ1)) (fun _ => g_none) (fun j4 hj4 => ?_) (fun j4 hj4 => ?_)
      · intro μ1
        refine s_aload_n C dX13_compileTest_4 rfl 0 rfl ?_
        refine s_ldcs (i := 56) C (List.mem_of_getElem? (i := 56) rfl) dX13_compileTest_5 ?_
        refine s_callV C R0 (kX13_accept (xl X) fu n0 g0 56 (by decide)) (Nat.le_trans (by decide) V) mmX13_accept miX13_accept q2666 (rc26 (Nat.le_trans (by decide) V)) g0 rfl rfl rfl (Nat.le_of_ble_eq_true rfl) ⟨by omega, by omega, by omega, by omega⟩ dX13_compileTest_7 (fun x3 μ2 => ?_)
        refine g_st (st' := [.int x3]) rfl ?_
        refine s_if_eq (tgt := 26) C dX13_compileTest_10 (by decide) (fun c4 => ?_) (fun c4 => ?_)
        ·
          exact s_vret C E dX13_compileTest_26
        ·
          refine s_aload_n C dX13_compileTest_13 rfl 0 rfl ?_
          refine s_callV C R0 ((ih (xl X)).2.1 n0 g0) V mmX13_compileConjunction miX13_compileConjunction q2848 (rc26 (Nat.le_trans (by decide) V)) g0 rfl rfl rfl (Nat.le_of_ble_eq_true rfl) ⟨by omega, by omega, by omega, by omega⟩ dX13_compileTest_14 (fun _ μ5 => ?_)
          refine g_st (st' := []) rfl ?_
          refine s_aload_n C dX13_compileTest_17 rfl 0 rfl ?_
          refine s_bipush (v := (-25 : Int32)) C dX13_compileTest_18 (by decide) ?_
          refine s_callV C R0 (kX13_emit (xl X) n0 g0 (-25 : Int32)) (Nat.le_trans (by decide) V) mmX13_emit miX13_emit q2860 (rc26 (Nat.le_trans (by decide) V)) g0 rfl rfl rfl (Nat.le_of_ble_eq_true rfl) ⟨by omega, by omega, by omega, by omega⟩ dX13_compileTest_20 (fun _ μ6 => ?_)
          refine g_st (st' := []) rfl ?_
          refine s_goto (tgt := 4) C dX13_compileTest_23 (by decide) ?_
          exact g_sub [0] rfl (hj4 μ6)
      refine s_aload_n C dX13_compileTest_0 rfl 0 rfl ?_
      refine s_callV C R0 ((ih (xl X)).2.1 n0 g0) V mmX13_compileConjunction miX13_compileConjunction q2848 (rc26 (Nat.le_trans (by decide) V)) g0 rfl rfl rfl (Nat.le_of_ble_eq_true rfl) ⟨by omega, by omega, by omega, by omega⟩ dX13_compileTest_1 (fun _ μ7 => ?_)
      refine g_st (st' := []) rfl ?_
      exact g_sub [0] rfl (hj4 μ7)
    · refine kon_of (by decide) (fun _ => Nat.le_of_ble_eq_true rfl) (fun X r0 μ hXl hXn V C E => ?_)
      have hN : ∀ i : Nat, i < 1 → i < xn X := fun i h => hXn.symm ▸ h
      have R0 := fen_rm E
      show G X r0 0 0 μ 0 [(0, .ref (xa X 26 n0))] [] (sX13_compileConjunction fu (fgX13c fu d) n0 μ)
      unfold sX13_compileConjunction
      refine g_jl (P := fun j4 => ∀ (μ1 : Mem), G X r0 0 0 μ1 4 [(0, .ref (xa X 26 n0))] [] (j4 μ1)) (fun _ => g_none) (fun j4 hj4 => ?_) (fun j4 hj4 => ?_)
      · intro μ1
        refine s_aload_n C dX13_compileConjunction_4 rfl 0 rfl ?_
        refine s_ldcs (i := 57) C (List.mem_of_getElem? (i := 57) rfl) dX13_compileConjunction_5 ?_
        refine s_callV C R0 (kX13_accept (xl X) fu n0 g0 57 (by decide)) (Nat.le_trans (by decide) V) mmX13_accept miX13_accept q2666 (rc26 (Nat.le_trans (by decide) V)) g0 rfl rfl rfl (Nat.le_of_ble_eq_true rfl) ⟨by omega, by omega, by omega, by omega⟩ dX13_compileConjunction_7 (fun x3 μ2 => ?_)
        refine g_st (st' := [.int x3]) rfl ?_
        refine s_if_eq (tgt := 26) C dX13_compileConjunction_10 (by decide) (fun c4 => ?_) (fun c4 => ?_)
        ·
          exact s_vret C E dX13_compileConjunction_26
        ·
          refine s_aload_n C dX13_compileConjunction_13 rfl 0 rfl ?_
          refine s_callV C R0 ((ih (xl X)).2.2 n0 g0) V mmX13_compileFactor miX13_compileFactor q2852 (rc26 (Nat.le_trans (by decide) V)) g0 rfl rfl rfl (Nat.le_of_ble_eq_true rfl) ⟨by omega, by omega, by omega, by omega⟩ dX13_compileConjunction_14 (fun _ μ5 => ?_)
          refine g_st (st' := []) rfl ?_
          refine s_aload_n C dX13_compileConjunction_17 rfl 0 rfl ?_
          refine s_bipush (v := (-24 : Int32)) C dX13_compileConjunction_18 (by decide) ?_
          refine s_callV C R0 (kX13_emit (xl X) n0 g0 (-24 : Int32)) (Nat.le_trans (by decide) V) mmX13_emit miX13_emit q2860 (rc26 (Nat.le_trans (by decide) V)) g0 rfl rfl rfl (Nat.le_of_ble_eq_true rfl) ⟨by omega, by omega, by omega, by omega⟩ dX13_compileConjunction_20 (fun _ μ6 => ?_)
          refine g_st (st' := []) rfl ?_
          refine s_goto (tgt := 4) C dX13_compileConjunction_23 (by decide) ?_
          exact g_sub [0] rfl (hj4 μ6)
      refine s_aload_n C dX13_compileConjunction_0 rfl 0 rfl ?_
      refine s_callV C R0 ((ih (xl X)).2.2 n0 g0) V mmX13_compileFactor miX13_compileFactor q2852 (rc26 (Nat.le_trans (by decide) V)) g0 rfl rfl rfl (Nat.le_of_ble_eq_true rfl) ⟨by omega, by omega, by omega, by omega⟩ dX13_compileConjunction_1 (fun _ μ7 => ?_)
      refine g_st (st' := []) rfl ?_
      exact g_sub [0] rfl (hj4 μ7)
    · refine kon_of (by decide) (fun _ => Nat.le_of_ble_eq_true rfl) (fun X r0 μ hXl hXn V C E => ?_)
      have hN : ∀ i : Nat, i < 2 → i < xn X := fun i h => hXn.symm ▸ h
      have R0 := fen_rm E
      show G X r0 0 0 μ 0 [(0, .ref (xa X 26 n0))] [] (sX13_compileFactor fu (fgX13c fu d) n0 μ)
      unfold sX13_compileFactor
      refine g_jn (P := fun j159 => ∀ (μ1 : Mem), G X r0 0 0 μ1 159 [] [] (j159 μ1)) ?_ (fun j159 hj159 => ?_)
      · intro μ1
        exact s_vret C E dX13_compileFactor_159
      refine s_aload_n C dX13_compileFactor_0 rfl 0 rfl ?_
      refine s_ldcs (i := 52) C (List.mem_of_getElem? (i := 52) rfl) dX13_compileFactor_1 ?_
      refine s_callV C R0 (kX13_isWord (xl X) fu n0 g0 52 (by decide)) (Nat.le_trans (by decide) V) mmX13_isWord miX13_isWord q2670 (rc26 (Nat.le_trans (by decide) V)) g0 rfl rfl rfl (Nat.le_of_ble_eq_true rfl) ⟨by omega, by omega, by omega, by omega⟩ dX13_compileFactor_3 (fun x3 μ2 => ?_)
      refine g_st (st' := [.int x3]) rfl ?_
      refine s_if_eq (tgt := 43) C dX13_compileFactor_6 (by decide) (fun c4 => ?_) (fun c4 => ?_)
      ·
        refine s_aload_n C dX13_compileFactor_43 rfl 0 rfl ?_
        refine s_bipush (v := (40 : Int32)) C dX13_compileFactor_44 (by decide) ?_
        refine s_callV C R0 (kX13_isSymbol (xl X) n0 g0 (40 : Int32)) (Nat.le_trans (by decide) V) mmX13_isSymbol miX13_isSymbol q2768 (rc26 (Nat.le_trans (by decide) V)) g0 rfl rfl rfl (Nat.le_of_ble_eq_true rfl) ⟨by omega, by omega, by omega, by omega⟩ dX13_compileFactor_46 (fun x6 μ5 => ?_)
        refine g_st (st' := [.int x6]) rfl ?_
        refine s_if_eq (tgt := 86) C dX13_compileFactor_49 (by decide) (fun c7 => ?_) (fun c7 => ?_)
        ·
          refine g_jn (P := fun j120 => ∀ (μ8 : Mem) (x9 : Int32), G X r0 0 0 μ8 120 [(0, .ref (xa X 26 n0))] [.int x9] (j120 μ8 x9)) ?_ (fun j120 hj120 => ?_)
          · intro μ8 x9
            refine g_jn (P := fun j142 => ∀ (μ10 : Mem) (x11 : Int32) (a12 : Nat) (x14 : Int32), a12 < 1 → G X r0 0 0 μ10 142 [(0, .ref (xa X 26 n0)), (1, .int x11)] [.int x14, .ref (xa X 26 a12)] (j142 μ10 x11 a12 x14)) ?_ (fun j142 hj142 => ?_)
            · intro μ10 x11 a12 x14 b13
              refine s_iconst (v := (1 : Int32)) C dX13_compileFactor_142 (by decide) ?_
              refine s_callV C R0 (kX13_check (xl X) a12 b13 x14 (1 : Int32)) (Nat.le_trans (by decide) V) mmX13_check miX13_check q2680 (rc26 (Nat.le_trans (by decide) V)) b13 rfl rfl rfl (Nat.le_of_ble_eq_true rfl) ⟨by omega, by omega, by omega, by omega⟩ dX13_compileFactor_143 (fun _ μ15 => ?_)
              refine g_st (st' := []) rfl ?_
              refine s_aload_n C dX13_compileFactor_146 rfl 0 rfl ?_
              refine s_callV C R0 (kX13_advance (xl X) fu n0 g0) (Nat.le_trans (by decide) V) mmX13_advance miX13_advance q2692 (rc26 (Nat.le_trans (by decide) V)) g0 rfl rfl rfl (Nat.le_of_ble_eq_true rfl) ⟨by omega, by omega, by omega, by omega⟩ dX13_compileFactor_147 (fun _ μ16 => ?_)
              refine g_st (st' := []) rfl ?_
              refine s_aload_n C dX13_compileFactor_150 rfl 0 rfl ?_
              refine s_callV C R0 (kX13_compileValue (xl X) fu n0 g0) (Nat.le_trans (by decide) V) mmX13_compileValue miX13_compileValue q2864 (rc26 (Nat.le_trans (by decide) V)) g0 rfl rfl rfl (Nat.le_of_ble_eq_true rfl) ⟨by omega, by omega, by omega, by omega⟩ dX13_compileFactor_151 (fun _ μ17 => ?_)
              refine g_st (st' := []) rfl ?_
              refine s_aload_n C dX13_compileFactor_154 rfl 0 rfl ?_
              refine s_iload_n C dX13_compileFactor_155 rfl 1 rfl ?_
              refine s_callV C R0 (kX13_emit (xl X) n0 g0 x11) (Nat.le_trans (by decide) V) mmX13_emit miX13_emit q2860 (rc26 (Nat.le_trans (by decide) V)) g0 rfl rfl rfl (Nat.le_of_ble_eq_true rfl) ⟨by omega, by omega, by omega, by omega⟩ dX13_compileFactor_156 (fun _ μ18 => ?_)
              refine g_st (st' := []) rfl ?_
              exact g_sub [] rfl (hj159 μ18)
            refine g_jn (P := fun j137 => ∀ (μ19 : Mem) (x20 : Int32) (a21 : Nat), a21 < 1 → G X r0 0 0 μ19 137 [(0, .ref (xa X 26 n0)), (1, .int x20)] [.ref (xa X 26 a21)] (j137 μ19 x20 a21)) ?_ (fun j137 hj137 => ?_)
            · intro μ19 x20 a21 b22
              refine s_iconst (v := (1 : Int32)) C dX13_compileFactor_137 (by decide) ?_
              refine s_goto (tgt := 142) C dX13_compileFactor_138 (by decide) ?_
              exact g_sub [0, 1] rfl (hj142 μ19 x20 a21 (1 : Int32) b22)
            refine s_istore_n (L' := [(1, .int x9), (0, .ref (xa X 26 n0))]) C dX13_compileFactor_120 rfl (hN 1 (by decide)) rfl ?_
            refine s_aload_n C dX13_compileFactor_121 rfl 1 rfl ?_
            refine s_iload_n C dX13_compileFactor_122 rfl 0 rfl ?_
            refine s_bipush (v := (-22 : Int32)) C dX13_compileFactor_123 (by decide) ?_
            refine s_icmp_ne (tgt := 137) C dX13_compileFactor_125 (by decide) (fun c23 => ?_) (fun c23 => ?_)
            ·
              exact g_sub [1, 0] rfl (hj137 μ8 x9 n0 g0)
            ·
              refine s_aload_n C dX13_compileFactor_128 rfl 1 rfl ?_
              refine s_bipush (v := (62 : Int32)) C dX13_compileFactor_129 (by decide) ?_
              refine s_callV C R0 (kX13_isSymbol (xl X) n0 g0 (62 : Int32)) (Nat.le_trans (by decide) V) mmX13_isSymbol miX13_isSymbol q2768 (rc26 (Nat.le_trans (by decide) V)) g0 rfl rfl rfl (Nat.le_of_ble_eq_true rfl) ⟨by omega, by omega, by omega, by omega⟩ dX13_compileFactor_131 (fun x25 μ24 => ?_)
              refine g_st (st' := [.int x25, .ref (xa X 26 n0)]) rfl ?_
              refine s_if_eq (tgt := 141) C dX13_compileFactor_134 (by decide) (fun c26 => ?_) (fun c26 => ?_)
              ·
                refine s_iconst (v := (0 : Int32)) C dX13_compileFactor_141 (by decide) ?_
                exact g_sub [1, 0] rfl (hj142 μ24 x9 n0 (0 : Int32) g0)
              ·
                exact g_sub [1, 0] rfl (hj137 μ24 x9 n0 g0)
          refine s_aload_n C dX13_compileFactor_86 rfl 0 rfl ?_
          refine s_callV C R0 (kX13_compileValue (xl X) fu n0 g0) (Nat.le_trans (by decide) V) mmX13_compileValue miX13_compileValue q2864 (rc26 (Nat.le_trans (by decide) V)) g0 rfl rfl rfl (Nat.le_of_ble_eq_true rfl) ⟨by omega, by omega, by omega, by omega⟩ dX13_compileFactor_87 (fun _ μ27 => ?_)
          refine g_st (st' := []) rfl ?_
          refine s_aload_n C dX13_compileFactor_90 rfl 0 rfl ?_
          refine s_bipush (v := (60 : Int32)) C dX13_compileFactor_91 (by decide) ?_
          refine s_callV C R0 (kX13_isSymbol (xl X) n0 g0 (60 : Int32)) (Nat.le_trans (by decide) V) mmX13_isSymbol miX13_isSymbol q2768 (rc26 (Nat.le_trans (by decide) V)) g0 rfl rfl rfl (Nat.le_of_ble_eq_true rfl) ⟨by omega, by omega, by omega, by omega⟩ dX13_compileFactor_93 (fun x29 μ28 => ?_)
          refine g_st (st' := [.int x29]) rfl ?_
          refine s_if_eq (tgt := 104) C dX13_compileFactor_96 (by decide) (fun c30 => ?_) (fun c30 => ?_)
          ·
            refine s_aload_n C dX13_compileFactor_104 rfl 0 rfl ?_
            refine s_bipush (v := (61 : Int32)) C dX13_compileFactor_105 (by decide) ?_
            refine s_callV C R0 (kX13_isSymbol (xl X) n0 g0 (61 : Int32)) (Nat.le_trans (by decide) V) mmX13_isSymbol miX13_isSymbol q2768 (rc26 (Nat.le_trans (by decide) V)) g0 rfl rfl rfl (Nat.le_of_ble_eq_true rfl) ⟨by omega, by omega, by omega, by omega⟩ dX13_compileFactor_107 (fun x32 μ31 => ?_)
            refine g_st (st' := [.int x32]) rfl ?_
            refine s_if_eq (tgt := 118) C dX13_compileFactor_110 (by decide) (fun c33 => ?_) (fun c33 => ?_)
            ·
              refine s_bipush (v := (-22 : Int32)) C dX13_compileFactor_118 (by decide) ?_
              exact g_sub [0] rfl (hj120 μ31 (-22 : Int32))
            ·
              refine s_bipush (v := (-21 : Int32)) C dX13_compileFactor_113 (by decide) ?_
              refine s_goto (tgt := 120) C dX13_compileFactor_115 (by decide) ?_
              exact g_sub [0] rfl (hj120 μ31 (-21 : Int32))
          ·
            refine s_bipush (v := (-20 : Int32)) C dX13_compileFactor_99 (by decide) ?_
            refine s_goto (tgt := 120) C dX13_compileFactor_101 (by decide) ?_
            exact g_sub [0] rfl (hj120 μ28 (-20 : Int32))
        ·
          refine g_jn (P := fun j67 => ∀ (μ34 : Mem), G X r0 0 0 μ34 67 [(0, .ref (xa X 26 n0))] [] (j67 μ34)) ?_ (fun j67 hj67 => ?_)
          · intro μ34
            refine s_aload_n C dX13_compileFactor_67 rfl 0 rfl ?_
            refine s_bipush (v := (41 : Int32)) C dX13_compileFactor_68 (by decide) ?_
            refine s_callV C R0 (kX13_expect (xl X) fu n0 g0 (41 : Int32)) (Nat.le_trans (by decide) V) mmX13_expect miX13_expect q2764 (rc26 (Nat.le_trans (by decide) V)) g0 rfl rfl rfl (Nat.le_of_ble_eq_true rfl) ⟨by omega, by omega, by omega, by omega⟩ dX13_compileFactor_70 (fun _ μ35 => ?_)
            refine g_st (st' := []) rfl ?_
            refine s_aload_n C dX13_compileFactor_73 rfl 0 rfl ?_
            refine s_dup C dX13_compileFactor_74 rfl ?_
            refine s_getI C (fgX13_493_26 (Nat.le_trans (by decide) V)) g0 dX13_compileFactor_75 ?_
            refine s_iconst (v := (1 : Int32)) C dX13_compileFactor_78 (by decide) ?_
            refine s_isub C dX13_compileFactor_79 ?_
            refine s_putI C (fpX13_493_26 (Nat.le_trans (by decide) V)) g0 dX13_compileFactor_80 ?_
            refine g_nmM (fun μ36 => ?_)
            refine s_goto (tgt := 159) C dX13_compileFactor_83 (by decide) ?_
            exact g_sub [] rfl (hj159 μ36)
          refine s_aload_n C dX13_compileFactor_52 rfl 0 rfl ?_
          refine s_callV C R0 (kX13_enter (xl X) fu n0 g0) (Nat.le_trans (by decide) V) mmX13_enter miX13_enter q2856 (rc26 (Nat.le_trans (by decide) V)) g0 rfl rfl rfl (Nat.le_of_ble_eq_true rfl) ⟨by omega, by omega, by omega, by omega⟩ dX13_compileFactor_53 (fun _ μ37 => ?_)
          refine g_st (st' := []) rfl ?_
          refine s_aload_n C dX13_compileFactor_56 rfl 0 rfl ?_
          refine s_getI C (fgX13_490_26 (Nat.le_trans (by decide) V)) g0 dX13_compileFactor_57 ?_
          refine s_if_ne (tgt := 67) C dX13_compileFactor_60 (by decide) (fun c38 => ?_) (fun c38 => ?_)
          ·
            exact g_sub [0] rfl (hj67 μ37)
          ·
            refine s_aload_n C dX13_compileFactor_63 rfl 0 rfl ?_
            refine s_callV C R0 ((ih (xl X)).1 n0 g0) V mmX13_compileTest miX13_compileTest q2844 (rc26 (Nat.le_trans (by decide) V)) g0 rfl rfl rfl (Nat.le_of_ble_eq_true rfl) ⟨by omega, by omega, by omega, by omega⟩ dX13_compileFactor_64 (fun _ μ39 => ?_)
            refine g_st (st' := []) rfl ?_
            exact g_sub [0] rfl (hj67 μ39)
      ·
        refine g_jn (P := fun j24 => ∀ (μ40 : Mem), G X r0 0 0 μ40 24 [(0, .ref (xa X 26 n0))] [] (j24 μ40)) ?_ (fun j24 hj24 => ?_)
        · intro μ40
          refine s_aload_n C dX13_compileFactor_24 rfl 0 rfl ?_
          refine s_bipush (v := (-23 : Int32)) C dX13_compileFactor_25 (by decide) ?_
          refine s_callV C R0 (kX13_emit (xl X) n0 g0 (-23 : Int32)) (Nat.le_trans (by decide) V) mmX13_emit miX13_emit q2860 (rc26 (Nat.le_trans (by decide) V)) g0 rfl rfl rfl (Nat.le_of_ble_eq_true rfl) ⟨by omega, by omega, by omega, by omega⟩ dX13_compileFactor_27 (fun _ μ41 => ?_)
          refine g_st (st' := []) rfl ?_
          refine s_aload_n C dX13_compileFactor_30 rfl 0 rfl ?_
          refine s_dup C dX13_compileFactor_31 rfl ?_
          refine s_getI C (fgX13_493_26 (Nat.le_trans (by decide) V)) g0 dX13_compileFactor_32 ?_
          refine s_iconst (v := (1 : Int32)) C dX13_compileFactor_35 (by decide) ?_
          refine s_isub C dX13_compileFactor_36 ?_
          refine s_putI C (fpX13_493_26 (Nat.le_trans (by decide) V)) g0 dX13_compileFactor_37 ?_
          refine g_nmM (fun μ42 => ?_)
          refine s_goto (tgt := 159) C dX13_compileFactor_40 (by decide) ?_
          exact g_sub [] rfl (hj159 μ42)
        refine s_aload_n C dX13_compileFactor_9 rfl 0 rfl ?_
        refine s_callV C R0 (kX13_enter (xl X) fu n0 g0) (Nat.le_trans (by decide) V) mmX13_enter miX13_enter q2856 (rc26 (Nat.le_trans (by decide) V)) g0 rfl rfl rfl (Nat.le_of_ble_eq_true rfl) ⟨by omega, by omega, by omega, by omega⟩ dX13_compileFactor_10 (fun _ μ43 => ?_)
        refine g_st (st' := []) rfl ?_
        refine s_aload_n C dX13_compileFactor_13 rfl 0 rfl ?_
        refine s_getI C (fgX13_490_26 (Nat.le_trans (by decide) V)) g0 dX13_compileFactor_14 ?_
        refine s_if_ne (tgt := 24) C dX13_compileFactor_17 (by decide) (fun c44 => ?_) (fun c44 => ?_)
        ·
          exact g_sub [0] rfl (hj24 μ43)
        ·
          refine s_aload_n C dX13_compileFactor_20 rfl 0 rfl ?_
          refine s_callV C R0 ((ih (xl X)).2.2 n0 g0) V mmX13_compileFactor miX13_compileFactor q2852 (rc26 (Nat.le_trans (by decide) V)) g0 rfl rfl rfl (Nat.le_of_ble_eq_true rfl) ⟨by omega, by omega, by omega, by omega⟩ dX13_compileFactor_21 (fun _ μ45 => ?_)
          refine g_st (st' := []) rfl ?_
          exact g_sub [0] rfl (hj24 μ45)

def sX6_readTest (fu : Nat) (rec : Nat → Nat → Int32 → Mem → Option (Int32 × Mem)) (n0 : Nat) (p1 : Int32) (μ : Mem) : Option (Int32 × Mem) :=
  jn (lp (fun _ _ _ => none) fu (fun j8 (μ1 : Mem) (x2 : Int32) (x3 : Int32) =>
    jn (fun (μ4 : Mem) (x5 : Int32) =>
      some (x5, μ4)
    ) fun j42 =>
    if (200 : Int32) ≤ x3 then (
      j42 μ1 x2
    ) else (
      bnd (fX11_skip 0 67 μ1) fun x8 μ7 =>
      if x8 = 0 then (
        j42 μ7 x2
      ) else (
        bnd (rec 1 n0 p1 μ7) fun x11 μ10 =>
        nm ((x2 ||| x11)) fun x12 =>
        nm (x3 + (1 : Int32)) fun x13 =>
        j8 μ10 x12 x13
      )
    )
  )) fun j8 =>
  bnd (rec 1 n0 p1 μ) fun x15 μ14 =>
  j8 μ14 x15 (0 : Int32)
def sX6_readConjunction (fu : Nat) (rec : Nat → Nat → Int32 → Mem → Option (Int32 × Mem)) (n0 : Nat) (p1 : Int32) (μ : Mem) : Option (Int32 × Mem) :=
  jn (lp (fun _ _ _ => none) fu (fun j8 (μ1 : Mem) (x2 : Int32) (x3 : Int32) =>
    jn (fun (μ4 : Mem) (x5 : Int32) =>
      some (x5, μ4)
    ) fun j42 =>
    if (200 : Int32) ≤ x3 then (
      j42 μ1 x2
    ) else (
      bnd (fX11_skip 0 68 μ1) fun x8 μ7 =>
      if x8 = 0 then (
        j42 μ7 x2
      ) else (
        bnd (rec 2 n0 p1 μ7) fun x11 μ10 =>
        nm ((x2 &&& x11)) fun x12 =>
        nm (x3 + (1 : Int32)) fun x13 =>
        j8 μ10 x12 x13
      )
    )
  )) fun j8 =>
  bnd (rec 2 n0 p1 μ) fun x15 μ14 =>
  j8 μ14 x15 (0 : Int32)
def sX6_readFactor (fu : Nat) (rec : Nat → Nat → Int32 → Mem → Option (Int32 × Mem)) (n0 : Nat) (p1 : Int32) (μ : Mem) : Option (Int32 × Mem) :=
  jn (fun (μ1 : Mem) =>
    if p1 < (6 : Int32) then (
      bnd (fX11_skip 0 63 μ1) fun x4 μ3 =>
      if x4 = 0 then (
        bnd (fX11_skip 0 7 μ3) fun x7 μ6 =>
        bnd (rec 0 n0 (p1 + (1 : Int32)) μ6) fun x9 μ8 =>
        bnd (fX11_expect 0 8 μ8) fun _ μ10 =>
        some (x9, μ10)
      ) else (
        bnd (rec 2 n0 (p1 + (1 : Int32)) μ3) fun x12 μ11 =>
        some ((x12 ^^^ (-1 : Int32)), μ11)
      )
    ) else (
      bnd (fX11_fail 0 (3 : Int32) μ1) fun _ μ13 =>
      some ((0 : Int32), μ13)
    )
  ) fun j31 =>
  bnd (fX11_at 0 63 μ) fun x15 μ14 =>
  if ¬ x15 = 0 then (
    j31 μ14
  ) else (
    bnd (fX11_at 0 7 μ14) fun x18 μ17 =>
    if ¬ x18 = 0 then (
      j31 μ17
    ) else (
      bnd (fX6_readComparison fu n0 μ17) fun x21 μ20 =>
      some (x21, μ20)
    )
  )
def tX6 (fu : Nat) (rec : Nat → Nat → Int32 → Mem → Option (Int32 × Mem)) : Nat → Nat → Int32 → Mem → Option (Int32 × Mem) := fun tag => match tag with
  | 0 => sX6_readTest fu rec
  | 1 => sX6_readConjunction fu rec
  | _ => sX6_readFactor fu rec
def fgX6 (fu : Nat) (d : Nat) : Nat → Nat → Int32 → Mem → Option (Int32 × Mem) := lp (fun _ _ _ _ => none) d (tX6 fu)
set_option maxHeartbeats 4000000 in
set_option maxRecDepth 100000 in
theorem kgX6 (fu : Nat) : ∀ (d : Nat) (l : Launch), (∀ (n0 : Nat) (g0 : n0 < 1) (p1 : Int32), Kon 0 l yX6_readTest cX6_readTest 4 (some .int) (d + 4) (23 * d + 94) 0 0 (fun ad => [.ref (ad 23 n0), .int p1]) rvI (fun μ => fgX6 fu d 0 n0 p1 μ)) ∧
    (∀ (n0 : Nat) (g0 : n0 < 1) (p1 : Int32), Kon 0 l yX6_readConjunction cX6_readConjunction 4 (some .int) (d + 4) (23 * d + 94) 0 0 (fun ad => [.ref (ad 23 n0), .int p1]) rvI (fun μ => fgX6 fu d 1 n0 p1 μ)) ∧
    (∀ (n0 : Nat) (g0 : n0 < 1) (p1 : Int32), Kon 0 l yX6_readFactor cX6_readFactor 3 (some .int) (d + 4) (23 * d + 94) 0 0 (fun ad => [.ref (ad 23 n0), .int p1]) rvI (fun μ => fgX6 fu d 2 n0 p1 μ)) := by
  intro d
  induction d with
  | zero =>
    intro l
    refine ⟨fun n0 g0 p1 vv hvv D ad ty μ sz r h => ?_, fun n0 g0 p1 vv hvv D ad ty μ sz r h => ?_, fun n0 g0 p1 vv hvv D ad ty μ sz r h => ?_⟩
    · exact nomatch (show (none : Option (Int32 × Mem)) = some r from h)
    · exact nomatch (show (none : Option (Int32 × Mem)) = some r from h)
    · exact nomatch (show (none : Option (Int32 × Mem)) = some r from h)
  | succ d ih =>
    intro l
    refine ⟨fun n0 g0 p1 => ?_, fun n0 g0 p1 => ?_, fun n0 g0 p1 => ?_⟩
    · refine kon_of (by decide) (fun _ => Nat.le_of_ble_eq_true rfl) (fun X r0 μ hXl hXn V C E => ?_)
      have hN : ∀ i : Nat, i < 4 → i < xn X := fun i h => hXn.symm ▸ h
      have R0 := fen_rm E
      show G X r0 0 0 μ 0 [(0, .ref (xa X 23 n0)), (1, .int p1)] [] (sX6_readTest fu (fgX6 fu d) n0 p1 μ)
      unfold sX6_readTest
      refine g_jl (P := fun j8 => ∀ (μ1 : Mem) (x2 : Int32) (x3 : Int32), G X r0 0 0 μ1 8 [(0, .ref (xa X 23 n0)), (1, .int p1), (2, .int x2), (3, .int x3)] [] (j8 μ1 x2 x3)) (fun _ _ _ => g_none) (fun j8 hj8 => ?_) (fun j8 hj8 => ?_)
      · intro μ1 x2 x3
        refine g_jn (P := fun j42 => ∀ (μ4 : Mem) (x5 : Int32), G X r0 0 0 μ4 42 [(2, .int x5)] [] (j42 μ4 x5)) ?_ (fun j42 hj42 => ?_)
        · intro μ4 x5
          refine s_iload_n C dX6_readTest_42 rfl 0 rfl ?_
          exact s_iret C E dX6_readTest_43
        refine s_iload_n C dX6_readTest_8 rfl 3 rfl ?_
        refine s_sipush (v := (200 : Int32)) C dX6_readTest_9 (by decide) ?_
        refine s_icmp_ge (tgt := 42) C dX6_readTest_12 (by decide) (fun c6 => ?_) (fun c6 => ?_)
        ·
          exact g_sub [2] rfl (hj42 μ1 x2)
        ·
          refine s_aload_n C dX6_readTest_15 rfl 0 rfl ?_
          refine s_getF C (fgX6_18_23 _) g0 dX6_readTest_16 ?_
          refine s_gsym (i := 67) C (by decide) rfl q1997 dX6_readTest_19 ?_
          refine s_callV C R0 (kX11_skip (xl X) 0 (by decide) 67 (by decide)) (Nat.le_trans (by decide) V) mmX11_skip miX11_skip q1990 (rc2 _) (by decide) rfl rfl rfl (Nat.le_of_ble_eq_true rfl) ⟨by omega, by omega, by omega, by omega⟩ dX6_readTest_22 (fun x8 μ7 => ?_)
          refine g_st (st' := [.int x8]) rfl ?_
          refine s_if_eq (tgt := 42) C dX6_readTest_25 (by decide) (fun c9 => ?_) (fun c9 => ?_)
          ·
            exact g_sub [2] rfl (hj42 μ7 x2)
          ·
            refine s_iload_n C dX6_readTest_28 rfl 2 rfl ?_
            refine s_aload_n C dX6_readTest_29 rfl 0 rfl ?_
            refine s_iload_n C dX6_readTest_30 rfl 1 rfl ?_
            refine s_callV C R0 ((ih (xl X)).2.1 n0 g0 p1) V mmX6_readConjunction miX6_readConjunction q1950 (rc23 _) g0 rfl rfl rfl (Nat.le_of_ble_eq_true rfl) ⟨by omega, by omega, by omega, by omega⟩ dX6_readTest_31 (fun x11 μ10 => ?_)
            refine g_st (st' := [.int x11, .int x2]) rfl ?_
            refine s_ior C dX6_readTest_34 ?_
            refine g_nmI (fun x12 => ?_)
            refine s_istore_n (L' := [(2, .int x12), (0, .ref (xa X 23 n0)), (1, .int p1), (3, .int x3)]) C dX6_readTest_35 rfl (hN 2 (by decide)) rfl ?_
            refine g_nmQ (fun x13 ex13 => ?_)
            refine s_iinc (v := x13) (j := 3) (L' := [(3, .int x13), (2, .int x12), (0, .ref (xa X 23 n0)), (1, .int p1)]) C dX6_readTest_36 rfl (by rw [ex13]; rfl) (hN 3 (by decide)) rfl ?_
            refine s_goto (tgt := 8) C dX6_readTest_39 (by decide) ?_
            exact g_sub [2, 3, 1, 0] rfl (hj8 μ10 x12 x13)
      refine s_aload_n C dX6_readTest_0 rfl 0 rfl ?_
      refine s_iload_n C dX6_readTest_1 rfl 1 rfl ?_
      refine s_callV C R0 ((ih (xl X)).2.1 n0 g0 p1) V mmX6_readConjunction miX6_readConjunction q1950 (rc23 _) g0 rfl rfl rfl (Nat.le_of_ble_eq_true rfl) ⟨by omega, by omega, by omega, by omega⟩ dX6_readTest_2 (fun x15 μ14 => ?_)
      refine g_st (st' := [.int x15]) rfl ?_
      refine s_istore_n (L' := [(2, .int x15), (0, .ref (xa X 23 n0)), (1, .int p1)]) C dX6_readTest_5 rfl (hN 2 (by decide)) rfl ?_
      refine s_iconst (v := (0 : Int32)) C dX6_readTest_6 (by decide) ?_
      refine s_istore_n (L' := [(3, .int (0 : Int32)), (2, .int x15), (0, .ref (xa X 23 n0)), (1, .int p1)]) C dX6_readTest_7 rfl (hN 3 (by decide)) rfl ?_
      exact g_sub [2, 3, 1, 0] rfl (hj8 μ14 x15 (0 : Int32))
    · refine kon_of (by decide) (fun _ => Nat.le_of_ble_eq_true rfl) (fun X r0 μ hXl hXn V C E => ?_)
      have hN : ∀ i : Nat, i < 4 → i < xn X := fun i h => hXn.symm ▸ h
      have R0 := fen_rm E
      show G X r0 0 0 μ 0 [(0, .ref (xa X 23 n0)), (1, .int p1)] [] (sX6_readConjunction fu (fgX6 fu d) n0 p1 μ)
      unfold sX6_readConjunction
      refine g_jl (P := fun j8 => ∀ (μ1 : Mem) (x2 : Int32) (x3 : Int32), G X r0 0 0 μ1 8 [(0, .ref (xa X 23 n0)), (1, .int p1), (2, .int x2), (3, .int x3)] [] (j8 μ1 x2 x3)) (fun _ _ _ => g_none) (fun j8 hj8 => ?_) (fun j8 hj8 => ?_)
      · intro μ1 x2 x3
        refine g_jn (P := fun j42 => ∀ (μ4 : Mem) (x5 : Int32), G X r0 0 0 μ4 42 [(2, .int x5)] [] (j42 μ4 x5)) ?_ (fun j42 hj42 => ?_)
        · intro μ4 x5
          refine s_iload_n C dX6_readConjunction_42 rfl 0 rfl ?_
          exact s_iret C E dX6_readConjunction_43
        refine s_iload_n C dX6_readConjunction_8 rfl 3 rfl ?_
        refine s_sipush (v := (200 : Int32)) C dX6_readConjunction_9 (by decide) ?_
        refine s_icmp_ge (tgt := 42) C dX6_readConjunction_12 (by decide) (fun c6 => ?_) (fun c6 => ?_)
        ·
          exact g_sub [2] rfl (hj42 μ1 x2)
        ·
          refine s_aload_n C dX6_readConjunction_15 rfl 0 rfl ?_
          refine s_getF C (fgX6_18_23 _) g0 dX6_readConjunction_16 ?_
          refine s_gsym (i := 68) C (by decide) rfl q1995 dX6_readConjunction_19 ?_
          refine s_callV C R0 (kX11_skip (xl X) 0 (by decide) 68 (by decide)) (Nat.le_trans (by decide) V) mmX11_skip miX11_skip q1990 (rc2 _) (by decide) rfl rfl rfl (Nat.le_of_ble_eq_true rfl) ⟨by omega, by omega, by omega, by omega⟩ dX6_readConjunction_22 (fun x8 μ7 => ?_)
          refine g_st (st' := [.int x8]) rfl ?_
          refine s_if_eq (tgt := 42) C dX6_readConjunction_25 (by decide) (fun c9 => ?_) (fun c9 => ?_)
          ·
            exact g_sub [2] rfl (hj42 μ7 x2)
          ·
            refine s_iload_n C dX6_readConjunction_28 rfl 2 rfl ?_
            refine s_aload_n C dX6_readConjunction_29 rfl 0 rfl ?_
            refine s_iload_n C dX6_readConjunction_30 rfl 1 rfl ?_
            refine s_callV C R0 ((ih (xl X)).2.2 n0 g0 p1) V mmX6_readFactor miX6_readFactor q1954 (rc23 _) g0 rfl rfl rfl (Nat.le_of_ble_eq_true rfl) ⟨by omega, by omega, by omega, by omega⟩ dX6_readConjunction_31 (fun x11 μ10 => ?_)
            refine g_st (st' := [.int x11, .int x2]) rfl ?_
            refine s_iand C dX6_readConjunction_34 ?_
            refine g_nmI (fun x12 => ?_)
            refine s_istore_n (L' := [(2, .int x12), (0, .ref (xa X 23 n0)), (1, .int p1), (3, .int x3)]) C dX6_readConjunction_35 rfl (hN 2 (by decide)) rfl ?_
            refine g_nmQ (fun x13 ex13 => ?_)
            refine s_iinc (v := x13) (j := 3) (L' := [(3, .int x13), (2, .int x12), (0, .ref (xa X 23 n0)), (1, .int p1)]) C dX6_readConjunction_36 rfl (by rw [ex13]; rfl) (hN 3 (by decide)) rfl ?_
            refine s_goto (tgt := 8) C dX6_readConjunction_39 (by decide) ?_
            exact g_sub [2, 3, 1, 0] rfl (hj8 μ10 x12 x13)
      refine s_aload_n C dX6_readConjunction_0 rfl 0 rfl ?_
      refine s_iload_n C dX6_readConjunction_1 rfl 1 rfl ?_
      refine s_callV C R0 ((ih (xl X)).2.2 n0 g0 p1) V mmX6_readFactor miX6_readFactor q1954 (rc23 _) g0 rfl rfl rfl (Nat.le_of_ble_eq_true rfl) ⟨by omega, by omega, by omega, by omega⟩ dX6_readConjunction_2 (fun x15 μ14 => ?_)
      refine g_st (st' := [.int x15]) rfl ?_
      refine s_istore_n (L' := [(2, .int x15), (0, .ref (xa X 23 n0)), (1, .int p1)]) C dX6_readConjunction_5 rfl (hN 2 (by decide)) rfl ?_
      refine s_iconst (v := (0 : Int32)) C dX6_readConjunction_6 (by decide) ?_
      refine s_istore_n (L' := [(3, .int (0 : Int32)), (2, .int x15), (0, .ref (xa X 23 n0)), (1, .int p1)]) C dX6_readConjunction_7 rfl (hN 3 (by decide)) rfl ?_
      exact g_sub [2, 3, 1, 0] rfl (hj8 μ14 x15 (0 : Int32))
    · refine kon_of (by decide) (fun _ => Nat.le_of_ble_eq_true rfl) (fun X r0 μ hXl hXn V C E => ?_)
      have hN : ∀ i : Nat, i < 3 → i < xn X := fun i h => hXn.symm ▸ h
      have R0 := fen_rm E
      show G X r0 0 0 μ 0 [(0, .ref (xa X 23 n0)), (1, .int p1)] [] (sX6_readFactor fu (fgX6 fu d) n0 p1 μ)
      unfold sX6_readFactor
      refine g_jn (P := fun j31 => ∀ (μ1 : Mem), G X r0 0 0 μ1 31 [(0, .ref (xa X 23 n0)), (1, .int p1)] [] (j31 μ1)) ?_ (fun j31 hj31 => ?_)
      · intro μ1
        refine s_iload_n C dX6_readFactor_31 rfl 1 rfl ?_
        refine s_bipush (v := (6 : Int32)) C dX6_readFactor_32 (by decide) ?_
        refine s_icmp_lt (tgt := 47) C dX6_readFactor_34 (by decide) (fun c2 => ?_) (fun c2 => ?_)
        ·
          refine s_aload_n C dX6_readFactor_47 rfl 0 rfl ?_
          refine s_getF C (fgX6_18_23 _) g0 dX6_readFactor_48 ?_
          refine s_gsym (i := 63) C (by decide) rfl q1958 dX6_readFactor_51 ?_
          refine s_callV C R0 (kX11_skip (xl X) 0 (by decide) 63 (by decide)) (Nat.le_trans (by decide) V) mmX11_skip miX11_skip q1990 (rc2 _) (by decide) rfl rfl rfl (Nat.le_of_ble_eq_true rfl) ⟨by omega, by omega, by omega, by omega⟩ dX6_readFactor_54 (fun x4 μ3 => ?_)
          refine g_st (st' := [.int x4]) rfl ?_
          refine s_if_eq (tgt := 70) C dX6_readFactor_57 (by decide) (fun c5 => ?_) (fun c5 => ?_)
          ·
            refine s_aload_n C dX6_readFactor_70 rfl 0 rfl ?_
            refine s_getF C (fgX6_18_23 _) g0 dX6_readFactor_71 ?_
            refine s_gsym (i := 7) C (by decide) rfl q1960 dX6_readFactor_74 ?_
            refine s_callV C R0 (kX11_skip (xl X) 0 (by decide) 7 (by decide)) (Nat.le_trans (by decide) V) mmX11_skip miX11_skip q1990 (rc2 _) (by decide) rfl rfl rfl (Nat.le_of_ble_eq_true rfl) ⟨by omega, by omega, by omega, by omega⟩ dX6_readFactor_77 (fun x7 μ6 => ?_)
            refine g_st (st' := [.int x7]) rfl ?_
            refine s_pop C dX6_readFactor_80 rfl ?_
            refine s_aload_n C dX6_readFactor_81 rfl 0 rfl ?_
            refine s_iload_n C dX6_readFactor_82 rfl 1 rfl ?_
            refine s_iconst (v := (1 : Int32)) C dX6_readFactor_83 (by decide) ?_
            refine s_iadd C dX6_readFactor_84 ?_
            refine s_callV C R0 ((ih (xl X)).1 n0 g0 (p1 + (1 : Int32))) V mmX6_readTest miX6_readTest q1991 (rc23 _) g0 rfl rfl rfl (Nat.le_of_ble_eq_true rfl) ⟨by omega, by omega, by omega, by omega⟩ dX6_readFactor_85 (fun x9 μ8 => ?_)
            refine g_st (st' := [.int x9]) rfl ?_
            refine s_istore_n (L' := [(2, .int x9), (0, .ref (xa X 23 n0)), (1, .int p1)]) C dX6_readFactor_88 rfl (hN 2 (by decide)) rfl ?_
            refine s_aload_n C dX6_readFactor_89 rfl 1 rfl ?_
            refine s_getF C (fgX6_18_23 _) g0 dX6_readFactor_90 ?_
            refine s_gsym (i := 8) C (by decide) rfl q1992 dX6_readFactor_93 ?_
            refine s_callV C R0 (kX11_expect (xl X) 0 (by decide) 8 (by decide)) (Nat.le_trans (by decide) V) mmX11_expect miX11_expect q1994 (rc2 _) (by decide) rfl rfl rfl (Nat.le_of_ble_eq_true rfl) ⟨by omega, by omega, by omega, by omega⟩ dX6_readFactor_96 (fun _ μ10 => ?_)
            refine g_st (st' := []) rfl ?_
            refine s_iload_n C dX6_readFactor_99 rfl 0 rfl ?_
            exact s_iret C E dX6_readFactor_100
          ·
            refine s_aload_n C dX6_readFactor_60 rfl 0 rfl ?_
            refine s_iload_n C dX6_readFactor_61 rfl 1 rfl ?_
            refine s_iconst (v := (1 : Int32)) C dX6_readFactor_62 (by decide) ?_
            refine s_iadd C dX6_readFactor_63 ?_
            refine s_callV C R0 ((ih (xl X)).2.2 n0 g0 (p1 + (1 : Int32))) V mmX6_readFactor miX6_readFactor q1954 (rc23 _) g0 rfl rfl rfl (Nat.le_of_ble_eq_true rfl) ⟨by omega, by omega, by omega, by omega⟩ dX6_readFactor_64 (fun x12 μ11 => ?_)
            refine g_st (st' := [.int x12]) rfl ?_
            refine s_iconst (v := (-1 : Int32)) C dX6_readFactor_67 (by decide) ?_
            refine s_ixor C dX6_readFactor_68 ?_
            exact s_iret C E dX6_readFactor_69
        ·
          refine s_aload_n C dX6_readFactor_37 rfl 0 rfl ?_
          refine s_getF C (fgX6_18_23 _) g0 dX6_readFactor_38 ?_
          refine s_iconst (v := (3 : Int32)) C dX6_readFactor_41 (by decide) ?_
          refine s_callV C R0 (kX11_fail (xl X) 0 (by decide) (3 : Int32)) (Nat.le_trans (by decide) V) mmX11_fail miX11_fail q1989 (rc2 _) (by decide) rfl rfl rfl (Nat.le_of_ble_eq_true rfl) ⟨by omega, by omega, by omega, by omega⟩ dX6_readFactor_42 (fun _ μ13 => ?_)
          refine g_st (st' := []) rfl ?_
          refine s_iconst (v := (0 : Int32)) C dX6_readFactor_45 (by decide) ?_
          exact s_iret C E dX6_readFactor_46
      refine s_aload_n C dX6_readFactor_0 rfl 0 rfl ?_
      refine s_getF C (fgX6_18_23 _) g0 dX6_readFactor_1 ?_
      refine s_gsym (i := 63) C (by decide) rfl q1958 dX6_readFactor_4 ?_
      refine s_callV C R0 (kX11_at (xl X) 0 (by decide) 63 (by decide)) (Nat.le_trans (by decide) V) mmX11_at miX11_at q1959 (rc2 _) (by decide) rfl rfl rfl (Nat.le_of_ble_eq_true rfl) ⟨by omega, by omega, by omega, by omega⟩ dX6_readFactor_7 (fun x15 μ14 => ?_)
      refine g_st (st' := [.int x15]) rfl ?_
      refine s_if_ne (tgt := 31) C dX6_readFactor_10 (by decide) (fun c16 => ?_) (fun c16 => ?_)
      ·
        exact g_sub [0, 1] rfl (hj31 μ14)
      ·
        refine s_aload_n C dX6_readFactor_13 rfl 0 rfl ?_
        refine s_getF C (fgX6_18_23 _) g0 dX6_readFactor_14 ?_
        refine s_gsym (i := 7) C (by decide) rfl q1960 dX6_readFactor_17 ?_
        refine s_callV C R0 (kX11_at (xl X) 0 (by decide) 7 (by decide)) (Nat.le_trans (by decide) V) mmX11_at miX11_at q1959 (rc2 _) (by decide) rfl rfl rfl (Nat.le_of_ble_eq_true rfl) ⟨by omega, by omega, by omega, by omega⟩ dX6_readFactor_20 (fun x18 μ17 => ?_)
        refine g_st (st' := [.int x18]) rfl ?_
        refine s_if_ne (tgt := 31) C dX6_readFactor_23 (by decide) (fun c19 => ?_) (fun c19 => ?_)
        ·
          exact g_sub [0, 1] rfl (hj31 μ17)
        ·
          refine s_aload_n C dX6_readFactor_26 rfl 0 rfl ?_
          refine s_callV C R0 (kX6_readComparison (xl X) fu n0 g0) (Nat.le_trans (by decide) V) mmX6_readComparison miX6_readComparison q1962 (rc23 _) g0 rfl rfl rfl (Nat.le_of_ble_eq_true rfl) ⟨by omega, by omega, by omega, by omega⟩ dX6_readFactor_27 (fun x21 μ20 => ?_)
          refine g_st (st' := [.int x21]) rfl ?_
          exact s_iret C E dX6_readFactor_30

