/-! PARSING: the clauses, both -/
theorem ic_ci {N n s t : Nat} {c : Nat → Int32} {M : Md} {μ ν : Mem} (h : IC N n c s M t μ ν) : μ.2.1 10 0 1 = s ∧ SY μ ∧ CN s μ := by
  obtain ⟨-, hr, hS, m, cnt, -, -, hP, -⟩ := h
  exact ⟨hr, hS, cnt, hP.1, hP.2.2.1⟩
theorem ic_p {N n s t t' : Nat} {c : Nat → Int32} {M : Md} {μ μ' ν ν' : Mem} (h : IC N n c s M t μ ν) (f : FPc μ μ') (g : FPm ν ν') (ht : tkP c N t ≤ tkP c N t') : IC N n c s M t' μ' ν' := by
  obtain ⟨hL, hr, hS, m, cnt, hz, hN, hP, hX, hB⟩ := h
  have nm := ic_28 hN (ν' := ν') (fun κ a q z _ => g.1 κ a q z)
  exact ⟨lc_c hL (fun κ a q z => f.1 _ _ _ (by omega)), by rw [f.2]; exact hr, sy_same (by rw [f.2]) hS, m, cnt, by omega, nm.1, by rw [nm.2]; exact pd_c hP (fun κ a q z => f.1 _ _ _ (by omega)) (by rw [f.2]), by rw [nm.2]; exact hX, lbl_c hB (fun κ a q z => f.1 _ _ _ (by omega)) (fun a q z => g.1 _ _ _ (by omega))⟩
theorem p_semi {N n s t t0 : Nat} {c : Nat → Int32} {M0 M1 : Md} {μ ν : Mem} (h : PG N n c t μ ν) (hI : IC N n c s M0 t μ ν) (h0 : t0 ≤ t) (fu : Nat) :
    J2 N n c M0 M1 (fun μ => fX11_expect 0 6 μ) (fX13_expect (fu + 1001) 0 59 ν) t μ ν (IC N n c s) (fun M t' _ μ' ν' => t0 < t' ∧ IC N n c s M t' μ' ν') (FcP s) FmP () := by
  refine j2_of (fun M μ _ g i => ?_) h hI
  obtain ⟨μ', ν', s1, s2, s3, s4, s5⟩ := p_expect (r := 6) (p := 59) g (by decide) (by decide) (by decide) (by decide) (by decide) fu
  refine ⟨(), μ', ν', s1, s2, fcp_p s4, fmp_p s5, fn_p s5, ?_⟩
  rcases s3 with ⟨q, l, g'⟩ | ⟨q, b⟩
  · exact Or.inr ⟨t + 1, by omega, g', by omega, ic_p i s4 s5 (Nat.le_of_lt (tk_lt h.1 l))⟩
  · exact Or.inl ⟨b, rfl⟩
theorem d_insFull {N n s F : Nat} {c : Nat → Int32} {μ : Mem} (hs : s < 2) (d : DD N n c μ) (hr : μ.2.1 10 0 1 = s) : fX5_readInstruction F 0 μ = cI1 F s μ := by
  rw [c_insEq, d_atRole d, bnd_some]
  show (if (0 : Int32) = 0 then _ else _) = _
  rw [if_pos (show (0 : Int32) = 0 from rfl)]
  dsimp only
  rw [c_insRest hs hr]
theorem p_labins {N n s t : Nat} {c : Nat → Int32} {M0 M1 : Md} {μ ν : Mem} (hM0 : MV M0) (hM1 : MV M1) (h0 : ∀ x, M0.1 x = some 0) (hs : s < 2) (h : PG N n c t μ ν) (hI : IC N n c s M0 t μ ν) (hfl : μ.1 10 0 2 = 0) (fu : Nat) :
    J2 N n c M0 M1 (fun μ => bnd (fX5_readLabel (fu + 1001) 0 μ) fun _ μ1 => fX5_readInstruction (fu + 1001) 0 μ1) (fX13_readInstruction (fu + 1001) 0 ν) t μ ν (IC N n c s) (fun M t' _ μ' ν' => IC N n c s M t' μ' ν') (FcP s) FmP () := by
  rw [m_ins_eq]
  exact j2_seq (Fc := FcP s) (Fm := FmP) (F2 := fun μ1 => fX5_readInstruction (fu + 1001) 0 μ1) (FM2 := fun _ ν1 => mIns (fu + 1001) ν1) (cv := ()) (fun _ _ _ => fcp_trans) (fun _ _ _ => fmp_trans) (p_label hs h hI hfl fu)
    (fun t1 _ μ1 ν1 _ _ _ g1 i1 => p_ins hM0 hM1 h0 hs g1 i1 fu)
    (fun μ0 μ' fc hx d => by
      have ci : μ0.2.1 10 0 1 = s ∧ SY μ0 ∧ CN s μ0 := by
        rcases hx with rfl | ⟨-, i⟩
        · exact ic_ci hI
        · exact ic_ci i
      obtain ⟨μ'', k1, k2, k3⟩ := d_ins (F := fu + 1001) hs d (fc.2.2.2.1 ci.2.1) (fc.2.2.2.2 ci.2.2)
      exact ⟨μ'', (d_insFull hs d ((fc.2.1 _ _ _ (by omega)).trans ci.1)).trans k1, k2, k3⟩)
    (fun μ' ν' _ b => ⟨ν', b_ins b, fmp_rfl, fn_rfl, fun _ _ _ => rfl⟩)
def cClause (F : Nat) (μ : Mem) : Option (Unit × Mem) := bnd (fX11_skip 0 12 μ) fun x13 μ12 => if x13 = 0 then bnd (fX11_skip 0 14 μ12) fun x16 μ15 => if x16 = 0 then bnd (fX5_readLabel F 0 μ15) fun _ μ18 => bnd (fX5_readInstruction F 0 μ18) fun _ μ19 => fX11_expect 0 6 μ19 else bnd (fX5_readLevel 0 μ15) fun _ μ20 => fX11_expect 0 6 μ20 else bnd (fX5_readEngine F 0 μ12) fun _ μ21 => fX11_expect 0 6 μ21
theorem p_clause {N n s t : Nat} {c : Nat → Int32} {M0 M1 : Md} {μ ν : Mem} (hM0 : MV M0) (hM1 : MV M1) (h0 : ∀ x, M0.1 x = some 0) (hs : s < 2) (h : PG N n c t μ ν) (hI : IC N n c s M0 t μ ν) (hfl : μ.1 10 0 2 = 0) (fu : Nat) :
    J2 N n c M0 M1 (fun μ => cClause (fu + 2001) μ) (fX13_readClause (fu + 2001) 0 ν) t μ ν (IC N n c s) (fun M t' _ μ' ν' => t < t' ∧ IC N n c s M t' μ' ν') (FcP s) FmP () := by
  have hn : n ≤ 1000 := Nat.le_trans h.1.1 h.1.2.1
  have semiD : ∀ μ0 μ', FcP s μ0 μ' → (μ0 = μ ∨ (PG N n c t μ0 ν ∧ IC N n c s M1 t μ0 ν)) → DD N n c μ' → ∃ μ'', fX11_expect 0 6 μ' = some ((), μ'') ∧ FcP s μ' μ'' ∧ KT μ' μ'' := fun μ0 μ' _ _ d => ⟨μ', d_expect d, fcp_rfl, kt_rfl⟩
  have semiB : ∀ (μ' ν' : Mem), PB N n c μ' ν' → fX13_expect (fu + 2001) 0 59 ν' = some ((), ν') := fun μ' ν' b => (b_expect (a := 6) b _).2
  unfold fX13_readClause
  simp only [jn_eq, bnd_u]
  by_cases q1 : syA N n c t = 12
  · obtain ⟨-, ν1, ya, -, tn, g1, fp⟩ := yes_acc h 12 30 (by decide) q1 (fu + 1000)
    have gq : t < n ∧ syA N n c t = 12 := ⟨tn, q1⟩
    rw [ya, bnd_some, if_neg (show ¬ (1 : Int32) = 0 by decide)]
    refine j2_word (F' := fun μ1 => bnd (fX5_readEngine (fu + 2001) 0 μ1) fun _ μ21 => fX11_expect 0 6 μ21) (I1 := IC N n c s) (fun _ _ _ => fcp_trans) (fun _ _ _ => fmp_trans) (fun μx gx => ?_) h g1 (fun M μx i => ic_p i fpc_6 fp (Nat.le_of_lt (tk_lt h.1 tn))) (fun μx => fcp_p fpc_6) (fmp_p fp) (fn_p fp) ?_
    · show cClause _ μx = _
      unfold cClause
      rw [c_skip hn gx.2.1 (by omega) gx.2.2.1, if_pos gq, if_pos gq, bnd_some, if_neg (show ¬ (1 : Int32) = 0 by decide)]
    · have i1 : IC N n c s M0 (t + 1) (wI μ 2 0 6 (nI (t + 1))) ν1 := ic_p hI fpc_6 fp (Nat.le_of_lt (tk_lt h.1 tn))
      exact j2_seq (Fc := FcP s) (Fm := FmP) (F2 := fun μ1 => fX11_expect 0 6 μ1) (FM2 := fun _ ν1 => fX13_expect (fu + 2001) 0 59 ν1) (cv := ()) (fun _ _ _ => fcp_trans) (fun _ _ _ => fmp_trans) (p_engine hM0 hM1 h0 hs g1 i1 fu)
        (fun t2 _ μ2 ν2 _ _ l g2 i2 => p_semi g2 i2 (by omega) (fu + 1000))
        (fun μ0 μ' _ _ d => ⟨μ', d_expect d, fcp_rfl, kt_rfl⟩) (fun μ' ν' _ b => ⟨ν', semiB μ' ν' b, fmp_rfl, fn_rfl, fun _ _ _ => rfl⟩)
  · have na := (no_acc h 12 30 (by decide) q1 (fu + 1000)).1
    have gq1 : ¬ (t < n ∧ syA N n c t = 12) := fun z => q1 z.2
    rw [na, bnd_some, if_pos (show (0 : Int32) = 0 from rfl)]
    by_cases q2 : syA N n c t = 14
    · obtain ⟨-, ν1, ya, -, tn, g1, fp⟩ := yes_acc h 14 32 (by decide) q2 (fu + 1000)
      have gq : t < n ∧ syA N n c t = 14 := ⟨tn, q2⟩
      rw [ya, bnd_some, if_neg (show ¬ (1 : Int32) = 0 by decide)]
      refine j2_word (F' := fun μ1 => bnd (fX5_readLevel 0 μ1) fun _ μ21 => fX11_expect 0 6 μ21) (I1 := IC N n c s) (fun _ _ _ => fcp_trans) (fun _ _ _ => fmp_trans) (fun μx gx => ?_) h g1 (fun M μx i => ic_p i fpc_6 fp (Nat.le_of_lt (tk_lt h.1 tn))) (fun μx => fcp_p fpc_6) (fmp_p fp) (fn_p fp) ?_
      · show cClause _ μx = _
        unfold cClause
        rw [c_skip hn gx.2.1 (by omega) gx.2.2.1, if_neg gq1, if_neg gq1, bnd_some, if_pos (show (0 : Int32) = 0 from rfl), c_skip hn gx.2.1 (by omega) gx.2.2.1, if_pos gq, if_pos gq, bnd_some, if_neg (show ¬ (1 : Int32) = 0 by decide)]
      · have i1 : IC N n c s M0 (t + 1) (wI μ 2 0 6 (nI (t + 1))) ν1 := ic_p hI fpc_6 fp (Nat.le_of_lt (tk_lt h.1 tn))
        exact j2_seq (Fc := FcP s) (Fm := FmP) (F2 := fun μ1 => fX11_expect 0 6 μ1) (FM2 := fun _ ν1 => fX13_expect (fu + 2001) 0 59 ν1) (cv := ()) (fun _ _ _ => fcp_trans) (fun _ _ _ => fmp_trans) (p_level hs g1 i1 (fu + 1000))
          (fun t2 _ μ2 ν2 _ _ l g2 i2 => p_semi g2 i2 (by omega) (fu + 1000))
          (fun μ0 μ' _ _ d => ⟨μ', d_expect d, fcp_rfl, kt_rfl⟩) (fun μ' ν' _ b => ⟨ν', semiB μ' ν' b, fmp_rfl, fn_rfl, fun _ _ _ => rfl⟩)
    · have nb := (no_acc h 14 32 (by decide) q2 (fu + 1000)).1
      have gq2 : ¬ (t < n ∧ syA N n c t = 14) := fun z => q2 z.2
      rw [nb, bnd_some, if_pos (show (0 : Int32) = 0 from rfl)]
      have key := j2_seq (Fc := FcP s) (Fm := FmP) (F2 := fun μ1 => fX11_expect 0 6 μ1) (FM2 := fun _ ν1 => fX13_expect (fu + 2001) 0 59 ν1) (cv := ()) (I2 := fun M t' _ μ' ν' => t < t' ∧ IC N n c s M t' μ' ν') (fun _ _ _ => fcp_trans) (fun _ _ _ => fmp_trans) (p_labins hM0 hM1 h0 hs h hI hfl (fu + 1000))
        (fun t2 _ μ2 ν2 _ _ l g2 i2 => p_semi g2 i2 l (fu + 1000)) semiD (fun μ' ν' _ b => ⟨ν', semiB μ' ν' b, fmp_rfl, fn_rfl, fun _ _ _ => rfl⟩)
      refine j2_cong (fun M μx _ gx _ => ?_) h hI key
      show cClause _ μx = bnd (bnd _ _) _
      unfold cClause
      rw [c_skip hn gx.2.1 gx.2.2.2.2.2.1.2.1 gx.2.2.1, if_neg gq1, if_neg gq1, bnd_some, if_pos (show (0 : Int32) = 0 from rfl), c_skip hn gx.2.1 gx.2.2.2.2.2.1.2.1 gx.2.2.1, if_neg gq2, if_neg gq2, bnd_some, if_pos (show (0 : Int32) = 0 from rfl), bnd_as]
