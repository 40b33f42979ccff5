/-! PARSING: all settings of an engine -/
theorem role2n : ∀ r, r < 74 → syR.getD r 0 &&& 2 = 0 → ¬ (17 ≤ r ∧ r ≤ 29) := by decide
theorem ms_none {N n t e : Nat} {c : Nat → Int32} {μ ν : Mem} (h : PG N n c t μ ν) (he : e < 4) (hr : syR.getD (syA N n c t) 0 &&& 2 = 0) (fu : Nat) : fX13_readSetting (fu + 1001) 0 (nI (476 + 21 * e)) ν = some (0, ν) := by
  have rr := role2n _ syA_lt hr
  have fl : ∀ k i r, k < 21 → (r < 74 ∧ syT.getD r 0 = i ∧ 0 < txN.getD i 0 ∧ tkL (txC i 0) = true) → syA N n c t ≠ r → fX13_readFlag (fu + 1001) 0 (nI (476 + 21 * e) + nI k) i ν = some (0, ν) := fun k i r hk hi hq => by
    unfold fX13_readFlag
    simp only [jn_eq, nm_eq]
    rw [(no_acc h r i hi hq fu).1, bnd_some, if_pos (show (0 : Int32) = 0 from rfl), e_add, e_cl he hk]
    show ckI (nI (476 + 21 * e + k)) 700 (ckI (nI (476 + 21 * e + k)) 700 (ckZ 0 (some ((0 : Int32), wI ν 27 1 (476 + 21 * e + k) (ν.1 27 1 (476 + 21 * e + k)))))) = _
    rw [e_ck he hk, e_ck he hk, ckZ_ok (Or.inl rfl), wI_id]
  have f1 : fX13_readFlag (fu + 1001) 0 (nI (476 + 21 * e) + 13) 42 ν = some (0, ν) := fl 13 42 24 (by decide) (by decide) (by omega)
  have f2 : fX13_readFlag (fu + 1001) 0 (nI (476 + 21 * e) + 14) 43 ν = some (0, ν) := fl 14 43 25 (by decide) (by decide) (by omega)
  unfold fX13_readSetting
  simp only [jn_eq]
  rw [(no_acc h 17 35 (by decide) (by omega) fu).1, bnd_some, if_pos (show (0 : Int32) = 0 from rfl)]
  rw [(no_acc h 18 36 (by decide) (by omega) fu).1, bnd_some, if_pos (show (0 : Int32) = 0 from rfl)]
  rw [(no_acc h 19 37 (by decide) (by omega) fu).2, bnd_some, if_pos (show (0 : Int32) = 0 from rfl)]
  rw [(no_acc h 20 38 (by decide) (by omega) fu).2, bnd_some, if_pos (show (0 : Int32) = 0 from rfl)]
  rw [(no_acc h 21 39 (by decide) (by omega) fu).2, bnd_some, if_pos (show (0 : Int32) = 0 from rfl)]
  rw [(no_acc h 22 40 (by decide) (by omega) fu).1, bnd_some, if_pos (show (0 : Int32) = 0 from rfl)]
  rw [(no_acc h 23 41 (by decide) (by omega) fu).1, bnd_some, if_pos (show (0 : Int32) = 0 from rfl)]
  rw [(no_acc h 26 44 (by decide) (by omega) fu).2, bnd_some, if_pos (show (0 : Int32) = 0 from rfl)]
  rw [(no_acc h 27 45 (by decide) (by omega) fu).2, bnd_some, if_pos (show (0 : Int32) = 0 from rfl)]
  rw [(no_acc h 28 46 (by decide) (by omega) fu).2, bnd_some, if_pos (show (0 : Int32) = 0 from rfl)]
  rw [(no_acc h 29 47 (by decide) (by omega) fu).2, bnd_some, if_pos (show (0 : Int32) = 0 from rfl)]
  rw [f1, bnd_some, if_neg (show ¬ ¬ (0 : Int32) = 0 from fun z => z rfl), f2, bnd_some, if_pos (show (0 : Int32) = 0 from rfl), ckZ_ok (Or.inl rfl)]
theorem bnd_ckB {α β : Type} {a k : Nat} {o : Option (α × Mem)} {g : α → Mem → Option (β × Mem)} : bnd (ckB a k o) g = ckB a k (bnd o g) := by
  unfold ckB
  split
  · rfl
  · rfl
theorem j2_cong {β : Type} {N n : Nat} {c : Nat → Int32} {M0 M1 : Md} {F F' : Mem → Option (Unit × Mem)} {FM : Option (β × Mem)} {t : Nat} {μ ν : Mem} {I : Md → Nat → Mem → Mem → Prop} {I' : Md → Nat → β → Mem → Mem → Prop} {Fc Fm : Mem → Mem → Prop} {bv : β}
    (hF : ∀ M μx, (M = M0 ∨ M = M1) → PG N n c t μx ν → I M t μx ν → F μx = F' μx) (hg : PG N n c t μ ν) (hi : I M0 t μ ν) (h : J2 N n c M0 M1 F' FM t μ ν I I' Fc Fm bv) : J2 N n c M0 M1 F FM t μ ν I I' Fc Fm bv := by
  obtain ⟨b, μ', ν', s1, s2, s3, s4, s5, s6⟩ := h
  refine ⟨b, μ', ν', (hF M0 μ (Or.inl rfl) hg hi).trans s1, s2, s3, s4, s5, ?_⟩
  rcases s6 with s6 | ⟨t', s6, s7, s8, s9⟩
  · exact Or.inl s6
  · refine Or.inr ⟨t', s6, s7, s8, fun μ2 g2 i2 => ?_⟩
    obtain ⟨μ2', q1, q2⟩ := s9 μ2 g2 i2
    exact ⟨μ2', (hF M1 μ2 (Or.inr rfl) g2 i2).trans q1, q2⟩
/-- the class's loop over the settings -/
def cLoop (F : Nat) : (Mem → Nat → Int32 → Option (Unit × Mem)) → Mem → Nat → Int32 → Option (Unit × Mem) := fun self μ2 a3 x5 =>
  if (1000 : Int32) ≤ x5 then some ((), μ2) else bnd (fX11_atRole 0 (2 : Int32) μ2) fun x9 μ8 => if x9 = 0 then some ((), μ8) else bnd (fX11_takeRole 0 (2 : Int32) μ8) fun a12 μ11 => ckB a12 74 <| bnd (fX5_readSetting F 0 a3 a12 μ11) fun _ μ14 => self μ14 a3 (x5 + (1 : Int32))
def mLoop (F : Nat) (x14 : Int32) : (Mem → Option (Unit × Mem)) → Mem → Option (Unit × Mem) := fun self μ21 =>
  bnd (fX13_readSetting F 0 x14 μ21) fun x23 μ22 => if x23 = 0 then some ((), μ22) else ckI (x14 + (0 : Int32)) (if 1 = 4 then 7000 else 700) <| self (wI μ22 27 1 (x14 + (0 : Int32)).toNatClampNeg (1 : Int32))
theorem cloop_d {N n F j k : Nat} {c : Nat → Int32} {μ : Mem} (h : DD N n c μ) (self : Mem → Nat → Int32 → Option (Unit × Mem)) : cLoop F self μ j (nI k) = some ((), μ) := by
  unfold cLoop
  by_cases g : (1000 : Int32) ≤ nI k
  · rw [if_pos g]
  · rw [if_neg g, d_atRole h, bnd_some, if_pos (show (0 : Int32) = 0 from rfl)]
theorem p_setloop {T0 : Md → Nat → Int32} {N n i0 e j : Nat} {c : Nat → Int32} {M0 M1 : Md} (hM0 : MV M0) (hM1 : MV M1) (h0 : ∀ x, M0.1 x = some 0) (he : e < 4) (hi0 : i0 ≤ 32) (fu : Nat) : ∀ d t k fc fm μ ν, n ≤ t + d → k + (n - t) ≤ 1000 → PG N n c t μ ν → IS N n c i0 e j T0 0 M0 t μ ν →
    J2 N n c M0 M1 (fun μ => lp (fun _ _ _ => none) (fc + (d + 1)) (cLoop (fu + 1001)) μ j (nI k)) (lp (fun _ => none) (fm + (d + 1)) (mLoop (fu + 1001) (nI (476 + 21 * e))) ν) t μ ν (IS N n c i0 e j T0 0) (fun M t' _ μ' ν' => IS N n c i0 e j T0 0 M t' μ' ν') (FcE j) (FmE e) () := by
  intro d
  induction d with
  | zero =>
    intro t k fc fm μ ν hd hk h hI
    have ht : t = n := by have := h.2.2.2.2.2.1.2.1; omega
    have hr : syR.getD (syA N n c t) 0 &&& 2 = 0 := by rw [sy_end (by omega)]; decide
    refine j2_of (fun M μ _ g i => ⟨(), μ, ν, ?_, ?_, fce_rfl, fme_rfl, fn_rfl, Or.inr ⟨t, Nat.le_refl t, g, i⟩⟩) h hI
    · show lp (fun (_ : Mem) (_ : Nat) (_ : Int32) => none) (fc + 1) (cLoop (fu + 1001)) _ j _ = _
      rw [lp_succ]
      unfold cLoop
      rw [c_atRole (Nat.le_trans g.1.1 g.1.2.1) g.2.1 g.2.2.2.2.2.1.2.1 g.2.2.1, if_pos hr, bnd_some, if_pos (show (0 : Int32) = 0 from rfl), ite_self]
    · rw [lp_succ]
      unfold mLoop
      rw [ms_none g he hr, bnd_some, if_pos (show (0 : Int32) = 0 from rfl)]
  | succ d ih =>
    intro t k fc fm μ ν hd hk h hI
    have L1 : ∀ μx, lp (fun _ _ _ => none) (fc + (d + 1 + 1)) (cLoop (fu + 1001)) μx j (nI k) = cLoop (fu + 1001) (lp (fun _ _ _ => none) (fc + (d + 1)) (cLoop (fu + 1001))) μx j (nI k) := fun μx => by rw [show fc + (d + 1 + 1) = (fc + (d + 1)) + 1 from rfl, lp_succ]
    have L2 : lp (fun _ => none) (fm + (d + 1 + 1)) (mLoop (fu + 1001) (nI (476 + 21 * e))) ν = mLoop (fu + 1001) (nI (476 + 21 * e)) (lp (fun _ => none) (fm + (d + 1)) (mLoop (fu + 1001) (nI (476 + 21 * e)))) ν := by rw [show fm + (d + 1 + 1) = (fm + (d + 1)) + 1 from rfl, lp_succ]
    rw [L2]
    by_cases hr : syR.getD (syA N n c t) 0 &&& 2 = 0
    · refine j2_of (fun M μ _ g i => ⟨(), μ, ν, ?_, ?_, fce_rfl, fme_rfl, fn_rfl, Or.inr ⟨t, Nat.le_refl t, g, i⟩⟩) h hI
      · show lp (fun (_ : Mem) (_ : Nat) (_ : Int32) => none) _ (cLoop (fu + 1001)) _ j _ = _
        rw [L1]
        unfold cLoop
        rw [c_atRole (Nat.le_trans g.1.1 g.1.2.1) g.2.1 g.2.2.2.2.2.1.2.1 g.2.2.1, if_pos hr, bnd_some, if_pos (show (0 : Int32) = 0 from rfl), ite_self]
      · unfold mLoop
        rw [ms_none g he hr, bnd_some, if_pos (show (0 : Int32) = 0 from rfl)]
    · have tn := role_lt hr
      have one := p_setting h hI hM0 hM1 h0 he hi0 hr fu
      have := j2_seq (Fc := FcE j) (Fm := FmE e) (F2 := fun μ => lp (fun _ _ _ => none) (fc + (d + 1)) (cLoop (fu + 1001)) μ j (nI (k + 1)))
        (FM2 := fun x23 μ22 => if x23 = 0 then some ((), μ22) else ckI (nI (476 + 21 * e) + (0 : Int32)) (if 1 = 4 then 7000 else 700) <| lp (fun _ => none) (fm + (d + 1)) (mLoop (fu + 1001) (nI (476 + 21 * e))) (wI μ22 27 1 (nI (476 + 21 * e) + (0 : Int32)).toNatClampNeg (1 : Int32)))
        (I2 := fun M t' _ μ' ν' => IS N n c i0 e j T0 0 M t' μ' ν') (cv := ())
        (fun _ _ _ => fce_trans) (fun _ _ _ => fme_trans) one
        (fun t' b μ' ν' _ _ _ g i => by
          obtain ⟨rfl, l, i⟩ := i
          obtain ⟨i1, m, i2, i3⟩ := i
          have ew : wI ν' 27 1 (nI (476 + 21 * e) + (0 : Int32)).toNatClampNeg 1 = ν' := by
            rw [show nI (476 + 21 * e) + (0 : Int32) = nI (476 + 21 * e + 0) from e_add (k := 0), e_cl he (by decide), ← i3.2.2.1, Nat.add_zero]
            exact wI_id
          rw [if_neg (show ¬ (1 : Int32) = 0 by decide), ew, show nI (476 + 21 * e) + (0 : Int32) = nI (476 + 21 * e + 0) from e_add (k := 0)]
          show J2 _ _ _ _ _ _ (ckI (nI (476 + 21 * e + 0)) 700 _) _ _ _ _ _ _ _ _
          rw [e_ck he (by decide)]
          exact j2_pp (fun _ _ w => w.2.2) (fun _ _ _ _ _ _ w => w) (ih t' (k + 1) fc fm μ' ν' (by omega) (by omega) g ⟨i1, m, i2, i3⟩))
        (fun μ0 μ' _ _ dd => ⟨μ', by show lp (fun (_ : Mem) (_ : Nat) (_ : Int32) => none) _ (cLoop (fu + 1001)) _ j _ = _; rw [show fc + (d + 1) = (fc + d) + 1 from rfl, lp_succ, cloop_d dd], fce_rfl, kt_rfl⟩)
        (fun μ' ν' _ b => ⟨ν', if_pos rfl, fme_rfl, fn_rfl, fun _ _ _ => rfl⟩)
      refine j2_cong (fun M μx _ g i => ?_) h hI this
      show lp (fun (_ : Mem) (_ : Nat) (_ : Int32) => none) _ (cLoop (fu + 1001)) _ j _ = _
      rw [L1]
      unfold cLoop
      rw [if_neg (show ¬ (1000 : Int32) ≤ nI k from fun z => absurd ((nI_leI (a := 1000) (by decide) (by omega)).1 z) (by omega)), c_atRole (Nat.le_trans g.1.1 g.1.2.1) g.2.1 g.2.2.2.2.2.1.2.1 g.2.2.1, if_neg hr, bnd_some, if_neg (show ¬ (1 : Int32) = 0 by decide)]
      show _ = bnd (bnd _ _) _
      rw [bnd_as]
      simp only [bnd_ckB, nI_1]
