/-! PARSING: a clause of an engine, both -/
theorem b_setting {N n e fu : Nat} {c : Nat → Int32} {μ ν : Mem} (h : PB N n c μ ν) (he : e < 4) : fX13_readSetting (fu + 1) 0 (nI (476 + 21 * e)) ν = some (0, ν) := by
  have fl : ∀ k i, k < 21 → fX13_readFlag (fu + 1) 0 (nI (476 + 21 * e) + nI k) i ν = some (0, ν) := fun k i hk => by
    unfold fX13_readFlag
    simp only [jn_eq, nm_eq]
    rw [b_accept h, bnd_some, if_pos (show (0 : Int32) = 0 from rfl), e_add, e_cl he hk]
    show ckI (nI (476 + 21 * e + k)) 700 (ckI (nI (476 + 21 * e + k)) 700 (ckZ 0 (some ((0 : Int32), wI ν 27 1 (476 + 21 * e + k) (ν.1 27 1 (476 + 21 * e + k)))))) = _
    rw [e_ck he hk, e_ck he hk, ckZ_ok (Or.inl rfl), wI_id]
  have f1 : fX13_readFlag (fu + 1) 0 (nI (476 + 21 * e) + 13) 42 ν = some (0, ν) := fl 13 42 (by decide)
  have f2 : fX13_readFlag (fu + 1) 0 (nI (476 + 21 * e) + 14) 43 ν = some (0, ν) := fl 14 43 (by decide)
  unfold fX13_readSetting
  simp only [jn_eq]
  rw [b_accept h, bnd_some, if_pos (show (0 : Int32) = 0 from rfl)]
  rw [b_accept h, bnd_some, if_pos (show (0 : Int32) = 0 from rfl)]
  rw [b_isWord h, bnd_some, if_pos (show (0 : Int32) = 0 from rfl)]
  rw [b_isWord h, bnd_some, if_pos (show (0 : Int32) = 0 from rfl)]
  rw [b_isWord h, bnd_some, if_pos (show (0 : Int32) = 0 from rfl)]
  rw [b_accept h, bnd_some, if_pos (show (0 : Int32) = 0 from rfl)]
  rw [b_accept h, bnd_some, if_pos (show (0 : Int32) = 0 from rfl)]
  rw [b_isWord h, bnd_some, if_pos (show (0 : Int32) = 0 from rfl)]
  rw [b_isWord h, bnd_some, if_pos (show (0 : Int32) = 0 from rfl)]
  rw [b_isWord h, bnd_some, if_pos (show (0 : Int32) = 0 from rfl)]
  rw [b_isWord h, bnd_some, if_pos (show (0 : Int32) = 0 from rfl)]
  rw [f1, bnd_some, if_neg (show ¬ ¬ (0 : Int32) = 0 from fun z => z rfl), f2, bnd_some, if_pos (show (0 : Int32) = 0 from rfl), ckZ_ok (Or.inl rfl)]
theorem p_engIn {T0 : Md → Nat → Int32} {N n i0 e j t : Nat} {c : Nat → Int32} {M0 M1 : Md} {μ ν : Mem} (hM0 : MV M0) (hM1 : MV M1) (h0 : ∀ x, M0.1 x = some 0) (he : e < 4) (hi0 : i0 ≤ 32) (h : PG N n c t μ ν) (hI : IS N n c i0 e j T0 0 M0 t μ ν) (fu : Nat) :
    J2 N n c M0 M1 (fun μ => cEng (fu + 2001) j μ) (mEng (fu + 2001) (nI (476 + 21 * e)) ν) t μ ν (IS N n c i0 e j T0 0) (fun M t' _ μ' ν' => IS N n c i0 e j T0 0 M t' μ' ν' ∧ ∃ x a, M.1 x = some a) (FcE j) (FmE e) () := by
  have hn : n ≤ 1000 := Nat.le_trans h.1.1 h.1.2.1
  have step1 : J2 N n c M0 M1 (fun μ => fX11_expect 0 13 μ) (fX13_expectWord (fu + 2001) 0 31 ν) t μ ν (IS N n c i0 e j T0 0) (fun M t' _ μ' ν' => IS N n c i0 e j T0 2 M t' μ' ν') (FcE j) (FmE e) () := by
    refine j2_of (fun M μ _ g i => ?_) h hI
    obtain ⟨μ', ν', s1, s2, s3, s4, s5⟩ := p_expectWord (r := 13) g (by decide) (by decide) (by decide) (fu + 1000)
    refine ⟨(), μ', ν', s1, s2, fce_p s4, fme_p s5, fn_p s5, ?_⟩
    rcases s3 with ⟨q, l, g'⟩ | ⟨q, b⟩
    · have len := sy_len (N := N) (n := n) (c := c) q (by decide) (by decide) (by decide)
      exact Or.inr ⟨t + 1, by omega, g', is_z (is_p i s4 s5) (by have e5 : txN.getD (syT.getD 13 0) 0 = 5 := by decide
                                                                 omega)⟩
    · exact Or.inl ⟨b, rfl⟩
  refine j2_seq (Fc := FcE j) (Fm := FmE e) (F2 := fun μ23 => bnd (fX5_takeName (fu + 2001) 0 μ23) fun x25 μ24 => lp (fun _ _ _ => none) (fu + 2001) (cLoop (fu + 2001)) (wI μ24 8 j 1 x25) j 0) (FM2 := fun _ μ33 => bnd (fX13_readName (fu + 2001) 0 (nI (476 + 21 * e) + (1 : Int32)) μ33) fun _ μ34 => lp (fun _ => none) (fu + 2001) (mLoop (fu + 2001) (nI (476 + 21 * e))) μ34) (cv := ()) (fun _ _ _ => fce_trans) (fun _ _ _ => fme_trans) step1 (fun t1 _ μ1 ν1 _ _ _ g1 i1 => ?_) (fun μ0 μ' _ _ d => ?_) (fun μ' ν' _ b => ?_)
  · have step2 := set_name (z := 0) (f := 1) (g := 1) (i := 1) g1 i1 hM0 hM1 h0 he (Or.inl ⟨rfl, rfl, rfl⟩) (fu + 1000)
    have := j2_seq (Fc := FcE j) (Fm := FmE e) (F2 := fun μ => lp (fun _ _ _ => none) (fu + 2001) (cLoop (fu + 2001)) μ j 0) (FM2 := fun _ μ34 => lp (fun _ => none) (fu + 2001) (mLoop (fu + 2001) (nI (476 + 21 * e))) μ34) (cv := ()) (I2 := fun M t' _ μ' ν' => IS N n c i0 e j T0 0 M t' μ' ν' ∧ ∃ x a, M.1 x = some a)
      (fun _ _ _ => fce_trans) (fun _ _ _ => fme_trans) step2
      (fun t2 _ μ2 ν2 _ _ _ g2 i2 => by
        have l := p_setloop hM0 hM1 h0 he hi0 (fu + 1000) 1000 t2 0 (fu + 1000) (fu + 1000) μ2 ν2 (by omega) (by omega) g2 i2.1
        exact j2_conv (fun _ _ w => w) (fun _ _ w => w) (fun _ _ _ _ w => w.1) (fun M μx μ' ν' t' b _ _ w _ _ _ v => ⟨v, w.2⟩) i2 l)
      (fun μ0 μ' _ _ d => ⟨μ', by show lp (fun (_ : Mem) (_ : Nat) (_ : Int32) => none) _ (cLoop (fu + 2001)) _ j 0 = _; rw [show fu + 2001 = (fu + 2000) + 1 from rfl, lp_succ]; exact cloop_d (k := 0) d _, fce_rfl, kt_rfl⟩)
      (fun μ' ν' _ b => ⟨ν', by
        show lp (fun (_ : Mem) => none) _ (mLoop (fu + 2001) (nI (476 + 21 * e))) ν' = _
        rw [show fu + 2001 = (fu + 2000) + 1 from rfl, lp_succ]
        unfold mLoop
        rw [b_setting b he, bnd_some, if_pos (show (0 : Int32) = 0 from rfl)], fme_rfl, fn_rfl, fun _ _ _ => rfl⟩)
    simp only [bnd_as, bnd_some] at this
    rw [show nI (476 + 21 * e) + (1 : Int32) = nI (476 + 21 * e + 1) from nI_1 _]
    exact this
  · have d' : DD N n c (wI μ' 8 j 1 0) := dd_c d (fun κ a q z => wI_o (by omega)) rfl
    refine ⟨wI μ' 8 j 1 0, ?_, fce_w, kt_w⟩
    show bnd _ _ = _
    rw [d_name d, bnd_some, show fu + 2001 = (fu + 2000) + 1 from rfl, lp_succ]
    exact cloop_d (k := 0) d' _
  · refine ⟨ν', ?_, fme_rfl, fn_rfl, fun _ _ _ => rfl⟩
    show bnd _ _ = _
    rw [b_name b (fu + 2000), bnd_some, show fu + 2001 = (fu + 2000) + 1 from rfl, lp_succ]
    unfold mLoop
    rw [b_setting b he, bnd_some, if_pos (show (0 : Int32) = 0 from rfl)]
