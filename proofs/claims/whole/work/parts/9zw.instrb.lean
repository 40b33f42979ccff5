/-! PARSING: an instruction, both -/
theorem relO_c {o B : Nat} {P P' m m' : Nat → Int32} {r : Nat → Nat} (h : relO o B P m r) (e1 : P' 1 = P 1) (e2 : P' 2 = P 2) (e3 : P' 3 = P 3) (e4 : m' 1 = m 1) (e5 : m' 5 = m 5) : relO o B P' m' r := by
  unfold relO at h ⊢
  rw [e1, e2, e3, e4, e5]
  exact h
def RI : RR := fun B P m r => ∃ o : Nat, o ≤ 12 ∧ P 0 = nI o ∧ r 0 = 30 + o ∧ ((P 4 = -1 ∧ m 6 = -1) ∨ ∃ n : Nat, n < 16 ∧ P 4 = nI n ∧ m 6 = nI n) ∧ (∃ n : Nat, n < 32 ∧ P 5 = nI n ∧ m 7 = nI n) ∧ relO o B P m r
theorem rf_ri {o : Nat} (ho : o ≤ 12) (B : Nat) (P m : Nat → Int32) (r : Nat → Nat) (h : spO 31 5 7 (spO 15 4 6 (RF o)) B P m r) : RI B P m r := by
  have side : ∀ P m, spO 15 4 6 (RF o) B P m r → P 0 = nI o ∧ r 0 = 30 + o ∧ ((P 4 = -1 ∧ m 6 = -1) ∨ ∃ n : Nat, n < 16 ∧ P 4 = nI n ∧ m 6 = nI n) ∧ P 5 = 0 ∧ m 7 = 0 ∧ relO o B P m r := by
    intro P m h
    rcases h with ⟨a, b, d, e, f, g, i⟩ | ⟨k, k1, k2, e1, e2, P0, m0, ⟨a, b, d, e, f, g, i⟩, f1, f2⟩
    · exact ⟨a, b, Or.inl ⟨d, f⟩, e, g, i⟩
    · exact ⟨(f1 0 (by decide)).trans a, b, Or.inr ⟨k, by omega, e1, e2⟩, (f1 5 (by decide)).trans e, (f2 7 (by decide)).trans g, relO_c i (f1 1 (by decide)) (f1 2 (by decide)) (f1 3 (by decide)) (f2 1 (by decide)) (f2 5 (by decide))⟩
  rcases h with h | ⟨k, k1, k2, e1, e2, P0, m0, h, f1, f2⟩
  · obtain ⟨a, b, d, e, f, g⟩ := side _ _ h
    exact ⟨o, ho, a, b, d, ⟨0, by decide, e, f⟩, g⟩
  · obtain ⟨a, b, d, e, f, g⟩ := side _ _ h
    refine ⟨o, ho, (f1 0 (by decide)).trans a, b, ?_, ⟨k, by omega, e1, e2⟩, relO_c g (f1 1 (by decide)) (f1 2 (by decide)) (f1 3 (by decide)) (f2 1 (by decide)) (f2 5 (by decide))⟩
    rcases d with ⟨d1, d2⟩ | ⟨x, x1, x2, x3⟩
    · exact Or.inl ⟨(f1 4 (by decide)).trans d1, (f2 6 (by decide)).trans d2⟩
    · exact Or.inr ⟨x, x1, (f1 4 (by decide)).trans x2, (f2 6 (by decide)).trans x3⟩
def mOpt (F : Nat) (p : Int32) (ii : Nat) (hi : Int32) (ν : Mem) : Option (Unit × Mem) := bnd (fX13_accept F 0 ii ν) fun x ν1 => if x = 0 then some ((), ν1) else fX13_putNumber F 0 p 0 hi ν1
def mSD (F cnt : Nat) (o : Int32) (ν : Mem) : Option (Unit × Mem) := bnd (fX13_readOperands F 0 (nI (284 + 6 * cnt)) o ν) fun _ ν1 => bnd (mOpt F (nI (284 + 6 * cnt + 4)) 33 15 ν1) fun _ ν2 => mOpt F (nI (284 + 6 * cnt + 5)) 34 31 ν2
theorem p_row {N n j cnt t o : Nat} {c : Nat → Int32} {T0 : Md → Nat → Int32} {M0 M1 : Md} {μ ν : Mem} (ho : o ≤ 12) (h : PG N n c t μ ν) (hI : IO N n c cnt j cnt 2 T0 (R0 o) M0 t μ ν) (hc : cnt < 32) (hM0 : MV M0) (hM1 : MV M1) (h0 : ∀ x, M0.1 x = some 0) (fu : Nat) :
    J2 N n c M0 M1 (fun μ => bnd (fX5_readOperands (fu + 1001) 0 j μ) fun _ μ20 => cTail j μ20) (mSD (fu + 1001) cnt (nI o) ν) t μ ν (IO N n c cnt j cnt 2 T0 (R0 o)) (fun M t' _ μ' ν' => IO N n c (cnt + 1) j cnt 0 T0 RI M t' μ' ν') (FcI j) (FmI cnt) () := by
  have s1 := p_ops (M1 := M1) o ho h hI hc hM0 hM1 h0 fu
  have bo : ∀ p ii hi μ' ν', PB N n c μ' ν' → mOpt (fu + 1001) p ii hi ν' = some ((), ν') := fun p ii hi μ' ν' b => by
    unfold mOpt
    rw [b_accept b, bnd_some, if_pos (show (0 : Int32) = 0 from rfl)]
  have key := j2_seq (Fc := FcI j) (Fm := FmI cnt) (F2 := fun μ => cTail j μ) (FM2 := fun _ ν1 => bnd (mOpt (fu + 1001) (nI (284 + 6 * cnt + 4)) 33 15 ν1) fun _ ν2 => mOpt (fu + 1001) (nI (284 + 6 * cnt + 5)) 34 31 ν2) (I2 := fun M t' _ μ' ν' => IO N n c (cnt + 1) j cnt 0 T0 RI M t' μ' ν') (cv := ()) (fun _ _ _ => fci_trans) (fun _ _ _ => fmi_trans) s1
    (fun t1 _ μ1 ν1 _ _ _ g1 i1 => by
      have k2 := j2_seq (Fc := FcI j) (Fm := FmI cnt) (F2 := fun μ => cT2 j μ) (FM2 := fun _ ν2 => mOpt (fu + 1001) (nI (284 + 6 * cnt + 5)) 34 31 ν2) (cv := ()) (I2 := fun M t' _ μ' ν' => IO N n c (cnt + 1) j cnt 0 T0 RI M t' μ' ν') (fun _ _ _ => fci_trans) (fun _ _ _ => fmi_trans) (op_opt (M1 := M1) (w := 15) (ii := 33) (hi := 15) (g := 4) (f := 6) g1 i1 hc (by decide) (Or.inr (by decide)) (by decide) (by decide) fu)
        (fun t2 _ μ2 ν2 _ _ _ g2 i2 => j2_pp (fun _ _ w => w) (fun M t' b μ' ν' _ w => io_mono w (Nat.le_refl _) (Nat.le_refl _) (rf_ri ho)) (op_opt (M1 := M1) (w := 16) (ii := 34) (hi := 31) (g := 5) (f := 7) g2 i2 hc (by decide) (Or.inr (by decide)) (by decide) (by decide) fu))
        (fun μ0 μ' _ _ d => ⟨μ', by show cT2 j μ' = _; unfold cT2; rw [d_skip d, bnd_some, if_pos (show (0 : Int32) = 0 from rfl)], fci_rfl, kt_rfl⟩)
        (fun μ' ν' _ b => ⟨ν', bo _ _ _ _ _ b, fmi_rfl, fn_rfl, fun _ _ _ => rfl⟩)
      refine j2_cong (fun M μx _ _ _ => ?_) g1 i1 k2
      show cTail j μx = bnd (bnd _ _) _
      unfold cTail
      simp only [bnd_as, bnd_ite, bnd_some]
      rfl)
    (fun μ0 μ' _ _ d => ⟨μ', d_tail d, fci_rfl, kt_rfl⟩)
    (fun μ' ν' _ b => ⟨ν', by show bnd _ _ = _; rw [bo _ _ _ _ _ b, bnd_some, bo _ _ _ _ _ b], fmi_rfl, fn_rfl, fun _ _ _ => rfl⟩)
  exact key
def mInc (μ15 : Mem) : Option (Unit × Mem) := some ((), wI μ15 27 1 0 (μ15.1 27 1 0 + 1))
def mI3 (F : Nat) (x2 : Int32) (μ6 : Mem) (x9 : Int32) : Option (Unit × Mem) := bnd (fX13_check 0 x9 3 μ6) fun _ μ10 => bnd (fX13_advance F 0 μ10) fun _ μ11 => if (μ11.1 26 0 26) = 0 then
    ckI ((284 : Int32) + 6 * μ11.1 27 1 0 + 0) 700 <| ckI ((284 : Int32) + 6 * μ11.1 27 1 0 + 4) 700 <|
      bnd (fX13_readOperands F 0 ((284 : Int32) + 6 * μ11.1 27 1 0) x2 (wI (wI μ11 27 1 ((284 : Int32) + 6 * μ11.1 27 1 0 + 0).toNatClampNeg x2) 27 1 ((284 : Int32) + 6 * μ11.1 27 1 0 + 4).toNatClampNeg (-1))) fun _ μ24 =>
      bnd (fX13_accept F 0 33 μ24) fun x26 μ25 => if x26 = 0 then (bnd (fX13_accept F 0 34 μ25) fun x18 μ17 => if x18 = 0 then mInc μ17 else bnd (fX13_putNumber F 0 ((284 : Int32) + 6 * μ11.1 27 1 0 + 5) 0 31 μ17) fun _ μ20 => mInc μ20)
        else bnd (fX13_putNumber F 0 ((284 : Int32) + 6 * μ11.1 27 1 0 + 4) 0 15 μ25) fun _ μ28 => (bnd (fX13_accept F 0 34 μ28) fun x18 μ17 => if x18 = 0 then mInc μ17 else bnd (fX13_putNumber F 0 ((284 : Int32) + 6 * μ11.1 27 1 0 + 5) 0 31 μ17) fun _ μ20 => mInc μ20)
    else some ((), μ11)
def mIns (F : Nat) (μ39 : Mem) : Option (Unit × Mem) := bnd (fX13_indexIn F 0 0 μ39) fun x41 μ40 =>
  let K := fun (x5 : Int32) => bnd (fX13_check 0 x5 1 μ40) fun _ μ32 => if ¬ (μ32.1 26 0 26) = 0 then mI3 F x41 μ32 1 else if (32 : Int32) ≤ μ32.1 27 1 0 then mI3 F x41 μ32 0 else mI3 F x41 μ32 1
  if ¬ (μ40.1 26 0 26) = 0 then K 1 else if x41 = -1 then K 0 else K 1
theorem m_ins_eq {F : Nat} {ν : Mem} : fX13_readInstruction F 0 ν = bnd (fX13_readLabel F 0 ν) fun _ ν1 => mIns F ν1 := by
  have c0 : ∀ {α : Type} (o : Option α), ckI (0 : Int32) (if 1 = 4 then 7000 else 700) o = o := fun o => ckI_nI (j := 0) (by decide) (by decide)
  unfold fX13_readInstruction mIns mI3 mInc
  simp only [jn_eq, nm_eq, c0]
  rfl
