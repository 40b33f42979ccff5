/-! PARSING: a label, both: the step -/
theorem lkM_lt {c : Nat → Int32} {lb ll : Nat → Nat} {x l cnt a : Nat} : ∀ d i, i + d = cnt → lkM c lb ll x l d i = some a → a < cnt := by
  intro d
  induction d with
  | zero => intro i _ h; exact absurd h (by simp [lkM])
  | succ d ih =>
    intro i hi h
    rw [lkM] at h
    by_cases g : ll i = l ∧ smG c l x (lb i) = true
    · rw [if_pos g] at h
      have := Option.some.inj h
      omega
    · rw [if_neg g] at h
      exact ih (i + 1) (by omega) h
theorem p_label {N n s t : Nat} {c : Nat → Int32} {M0 M1 : Md} {μ ν : Mem} (hs : s < 2) (h : PG N n c t μ ν) (hI : IC N n c s M0 t μ ν) (hfl : μ.1 10 0 2 = 0) (fu : Nat) :
    J2 N n c M0 M1 (fun μ => fX5_readLabel (fu + 1001) 0 μ) (fX13_readLabel (fu + 1001) 0 ν) t μ ν (IC N n c s) (fun M t' _ μ' ν' => IL N n c s M t' μ' ν') (FcP s) FmP () := by
  have hI0 := hI
  have hT := h.1
  have hn : n ≤ 1000 := Nat.le_trans h.1.1 h.1.2.1
  obtain ⟨hL, hr, hS, m, cnt, hz, hN, hP, hX, hB⟩ := hI
  have d0 : ν.1 27 1 0 = nI cnt := (tt_no hN (nf0 (Or.inl (by decide)))).symm.trans hP.2.1
  by_cases q : syA N n c t = 2
  · obtain ⟨tn, -⟩ := sy_2 q
    have xl := h.1.2.2.1 t tn
    obtain ⟨L, lt, la, lb, ll, l1, l2, l3⟩ := hB hfl
    rw [m_lab1 h q d0 hP.1 l2 fu]
    cases hk : lkM c lb ll (tkP c N t) (tkE c N (tkP c N t) - tkP c N t) cnt 0 with
    | some a =>
      obtain ⟨μ1, ν1, f1, f2, f3, f4, f5⟩ := p_fail2 (k := 4) h (by decide)
      have lk : lkG c N lt la (tkP c N t) L 0 = some a := (lk_top hT l3 xl).symm.trans hk
      have ce := c_defineF hT h.2.1 tn h.2.2.1 l1 lk (lkG_le l1 L 0 (by omega) lk).1 f1 fu
      refine ⟨(), μ1, labM ν1 cnt (nI (tkP c N t)) (nI (tkE c N (tkP c N t) - tkP c N t)), ?_, ?_, fcp_p f4, fmp_trans (fmp_p f5) fmp_lab, fn_trans (fn_p f5) fn_lab, Or.inl ⟨pb_m f3 (fun q _ _ => lab_o (by omega)), rfl⟩⟩
      · show fX5_readLabel _ _ _ = _
        unfold fX5_readLabel
        simp only [jn_eq]
        rw [c_at hn h.2.1 (by omega) h.2.2.1, bnd_some, if_pos q, if_pos (show ¬ (1 : Int32) = 0 by decide), if_neg (fun z => z hfl), ce, bnd_some, d_skip (pb_dd f3), bnd_some, d_expect (pb_dd f3), bnd_some]
      · rw [if_neg (by simp), m_chk0 f2, bnd_some, b_advance f3, bnd_some, (b_expect (a := 0) f3 _).2, bnd_some]
    | none =>
      rw [if_pos rfl, m_chk1, bnd_some]
      refine j2_of (fun M μ hM g i => ?_) h hI0
      have hcx := i
      obtain ⟨hL', hr', hS', m', cnt', hz', hN', hP', hX', hB'⟩ := i
      obtain ⟨rfl, rfl⟩ := ic_cnt hI0 hcx _ _ _ _ hN hP hN' hP'
      -- the class before the colon
      have cls : ∃ μ1, FcP s μ μ1 ∧ LC N n c M.1 μ1 ∧ PG N n c t μ1 ν ∧ PD s M.2 cnt μ1 (TT M.1 ν) ∧ μ1.2 = μ.2 ∧ (fX5_readLabel (fu + 1001) 0 μ = bnd (fX11_skip 0 2 μ1) fun _ μ5 => bnd (fX11_expect 0 5 μ5) fun _ μ7 => some ((), μ7)) ∧ (cnt < 32 → LBL N n c (cnt + 1) μ1 (labM ν cnt (nI (tkP c N t)) (nI (tkE c N (tkP c N t) - tkP c N t)))) := by
        by_cases fl : μ.1 10 0 2 = 0
        · obtain ⟨L', lt', la', lb', ll', l1', l2', l3'⟩ := hB' fl
          have e1 := m_labelled hT.2.1 h.2.2.2.2.2.2 xl hP.1 l2 fu
          have e2 := m_labelled hT.2.1 h.2.2.2.2.2.2 xl hP.1 l2' fu
          rw [hk] at e1
          have e3 : opN (lkM c lb' ll' (tkP c N t) (tkE c N (tkP c N t) - tkP c N t) cnt 0) = -1 := (Prod.mk.inj (Option.some.inj (e1.symm.trans e2))).1.symm
          have e4 : lkM c lb' ll' (tkP c N t) (tkE c N (tkP c N t) - tkP c N t) cnt 0 = none := by
            cases hk' : lkM c lb' ll' (tkP c N t) (tkE c N (tkP c N t) - tkP c N t) cnt 0 with
            | none => rfl
            | some a =>
              have := lkM_lt (cnt := cnt) cnt 0 (by omega) hk'
              have := hP.1
              rw [hk'] at e3
              exact absurd e3 (nI_m1 (by omega))
          have lk : lkG c N lt' la' (tkP c N t) L' 0 = none := (lk_top hT l3' xl).symm.trans e4
          have ce := c_define hT g.2.1 tn g.2.2.1 l1' hr' hs hP'.2.2.1 lk fu
          have lc0 : ∀ x, M.1 x = some 0 := by
            rcases hL' with w | w
            · exact w.2
            · exact absurd (w.1.symm.trans fl) (by decide)
          have rd : ∀ μ1, fX5_defineLabel (fu + 1001) 0 μ = some ((), μ1) → fX5_readLabel (fu + 1001) 0 μ = bnd (fX11_skip 0 2 μ1) fun _ μ5 => bnd (fX11_expect 0 5 μ5) fun _ μ7 => some ((), μ7) := fun μ1 ce => by
            unfold fX5_readLabel
            simp only [jn_eq]
            rw [c_at hn g.2.1 (by omega) g.2.2.1, bnd_some, if_pos q, if_pos (show ¬ (1 : Int32) = 0 by decide), if_neg (fun z => z fl), ce, bnd_some]
          by_cases l32 : L' < 32
          · rw [if_pos l32] at ce
            have k5 : ∀ κ a q, κ = 5 ∨ κ = 8 ∨ κ = 9 ∨ κ = 1 ∨ κ = 2 ∨ κ = 4 → (defD μ L' t cnt).1 κ a q = μ.1 κ a q := fun κ a q z => by unfold defD; rw [wI_o (by omega), wI_o (by omega), wI_o (by omega)]
            exact ⟨_, fcp_def, Or.inl ⟨by unfold defD; rw [wI_o (by omega), wI_o (by omega), wI_o (by omega)]; exact fl, lc0⟩, pg_c g (fun κ a q z => k5 _ _ _ (by omega)) rfl, pd_c hP' (fun κ a q z => k5 _ _ _ (by omega)) rfl, rfl, rd _ ce, fun hc => lbl_ext1 hT l1' l2' l3' hc tn⟩
          · rw [if_neg l32] at ce
            have := lm_le l3'
            exact ⟨μ, fcp_rfl, hL', g, hP', rfl, rd _ ce, fun hc => by omega⟩
        · refine ⟨μ, fcp_rfl, hL', g, hP', rfl, ?_, fun _ z => absurd z fl⟩
          unfold fX5_readLabel
          simp only [jn_eq]
          rw [c_at hn g.2.1 (by omega) g.2.2.1, bnd_some, if_pos q, if_pos (show ¬ (1 : Int32) = 0 by decide), if_pos fl]
      obtain ⟨μ1, x1, x2, x3, x4, x5, x6, x7⟩ := cls
      obtain ⟨ν1, s1, s2, s3⟩ := p_next x3 tn fu
      have fw := fpm_fw s3
      obtain ⟨μ2, ν2, r1, r2, r3, r4, r5⟩ := p_expect (r := 5) (p := 58) s2 (by decide) (by decide) (by decide) (by decide) (by decide) fu
      have gq : t < n ∧ syA N n c t = 2 := ⟨tn, q⟩
      have ec : fX5_readLabel (fu + 1001) 0 μ = some ((), μ2) := by
        rw [x6, c_skip hn x3.2.1 (by omega) x3.2.2.1, if_pos gq, if_pos gq, bnd_some, r1, bnd_some]
      have em : (bnd (fX13_advance (fu + 1001) 0 ν) fun _ μ17 => bnd (fX13_expect (fu + 1001) 0 58 μ17) fun _ μ18 => some ((), labM μ18 cnt (nI (tkP c N t)) (nI (tkE c N (tkP c N t) - tkP c N t)))) = some ((), labM ν2 cnt (nI (tkP c N t)) (nI (tkE c N (tkP c N t) - tkP c N t))) := by
        unfold fX13_advance
        simp only [jn_eq]
        rw [if_neg (show ¬ ¬ ν.1 26 0 26 = 0 from fun z => z h.2.2.2.2.1), s1, bnd_some, bnd_some, r2, bnd_some]
      have fc2 : FPc μ1 μ2 := fpc_trans fpc_6 r4
      have fm2 : FPm ν ν2 := fpm_trans fw r5
      have sm : ∀ κ a q, ¬ (κ = 26 ∧ a = 0 ∧ 23 ≤ q ∧ q ≤ 27) → (labM ν2 cnt (nI (tkP c N t)) (nI (tkE c N (tkP c N t) - tkP c N t))).1 κ a q = (labM ν cnt (nI (tkP c N t)) (nI (tkE c N (tkP c N t) - tkP c N t))).1 κ a q := fun κ a q z => by
        unfold labM
        split
        · rw [wI_at, wI_at, wI_at, wI_at, fm2.1 κ a q z]
        · exact fm2.1 κ a q z
      refine ⟨(), μ2, _, ec, em, fcp_trans x1 (fcp_p fc2), fmp_trans (fmp_p fm2) fmp_lab, fn_trans (fn_p fm2) fn_lab, ?_⟩
      rcases r3 with ⟨y1, y2, y3⟩ | ⟨y1, y2⟩
      · have g3 := pg_m (ν' := labM ν2 cnt (nI (tkP c N t)) (nI (tkE c N (tkP c N t) - tkP c N t))) y3 (fun q _ _ => lab_o (by omega)) (funext fun q => lab_o (by omega))
        have nm := ic_28 hN' (ν' := labM ν2 cnt (nI (tkP c N t)) (nI (tkE c N (tkP c N t) - tkP c N t))) (fun κ a q z w => by rw [sm κ a q z]; exact lab_o (by omega))
        refine Or.inr ⟨t + 1 + 1, by omega, g3, lc_c x2 (fun κ a q z => fc2.1 _ _ _ (by omega)), by rw [fc2.2, x5]; exact hr', sy_same (by rw [fc2.2, x5]) hS', m, cnt, ?_, nm.1, ?_, ?_, fun hc => ?_⟩
        · have := tk_lt h.1 tn; have := tk_lt h.1 y2; omega
        · rw [nm.2]; exact pd_c x4 (fun κ a q z => fc2.1 _ _ _ (by omega)) (by rw [fc2.2])
        · rw [nm.2]; exact hX'
        · exact lbl_c (x7 hc) (fun κ a q z => fc2.1 _ _ _ (by omega)) (fun a q z => sm _ _ _ (by omega))
      · exact Or.inl ⟨pb_m y2 (fun q _ _ => lab_o (by omega)), rfl⟩
  · rw [m_lab0 h q d0 hP.1 fu]
    refine j2_of (fun M μ hM g i => ?_) h hI0
    have hcx := i
    obtain ⟨hL', hr', hS', m', cnt', hz', hN', hP', hX', hB'⟩ := i
    obtain ⟨rfl, rfl⟩ := ic_cnt hI0 hcx _ _ _ _ hN hP hN' hP'
    have nm := ic_28 hN' (ν' := labM ν cnt (nI (tkP c N t)) 0) (fun κ a q z w => lab_o (by omega))
    refine ⟨(), μ, _, ?_, rfl, fcp_rfl, fmp_lab, fn_lab, Or.inr ⟨t, Nat.le_refl t, pg_m g (fun q _ _ => lab_o (by omega)) (funext fun q => lab_o (by omega)), hL', hr', hS', m, cnt, hz', nm.1, by rw [nm.2]; exact hP', by rw [nm.2]; exact hX', fun hc => lbl_ext0 hB' hc⟩⟩
    show fX5_readLabel _ _ _ = _
    unfold fX5_readLabel
    simp only [jn_eq]
    rw [c_at hn g.2.1 g.2.2.2.2.2.1.2.1 g.2.2.1, bnd_some, if_neg q, if_neg (show ¬ ¬ (0 : Int32) = 0 from fun z => z rfl)]
theorem d_label {N n fu : Nat} {c : Nat → Int32} {μ : Mem} (d : DD N n c μ) : fX5_readLabel fu 0 μ = some ((), μ) := by
  unfold fX5_readLabel
  simp only [jn_eq]
  rw [d_at d, bnd_some, if_neg (show ¬ (2 : Nat) = 1 by decide), if_neg (show ¬ ¬ (0 : Int32) = 0 from fun z => z rfl)]
theorem b_label {N n cnt : Nat} {c : Nat → Int32} {μ ν : Mem} (b : PB N n c μ ν) (h0 : ν.1 27 1 0 = nI cnt) (hc : cnt ≤ 32) (fu : Nat) : ∃ x, fX13_readLabel fu 0 ν = some ((), labM ν cnt x 0) := by
  refine ⟨ν.1 26 0 24, ?_⟩
  unfold fX13_readLabel
  simp only [jn_eq, nm_eq]
  rw [show ∀ {α : Type} (o : Option α), ckI (0 : Int32) (if 1 = 4 then 7000 else 700) o = o from fun o => ckI_nI (j := 0) (by decide) (by decide), b_isName b, bnd_some, if_pos (show (0 : Int32) = 0 from rfl), if_pos (show (0 : Int32) ≤ 0 by decide)]
  show (if (32 : Int32) ≤ ν.1 27 1 0 then some ((), ν) else ckI (ν.1 27 1 0) (mil.getD 8 0) (ckI (ν.1 27 1 0) (mil.getD 9 0) (some ((), wI (wI ν 28 8 (ν.1 27 1 0).toNatClampNeg (ν.1 26 0 24)) 28 9 (ν.1 27 1 0).toNatClampNeg 0)))) = _
  rw [h0]
  exact lab_w hc
