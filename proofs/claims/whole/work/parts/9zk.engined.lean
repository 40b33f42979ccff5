/-! PARSING: a clause of an engine, both, in the program -/
theorem m_eng1 {N n fu : Nat} {c : Nat → Int32} {μ' ν ν' : Mem} (h26 : ν.1 26 0 26 = 0) (k2 : ¬ ν.1 26 0 25 = 2) (s : fX13_fail 0 1 ν = some ((), ν')) (b : PB N n c μ' ν') : fX13_readEngine fu 0 ν = some ((), ν') := by
  have e := b_err b
  unfold fX13_readEngine
  simp only [jn_eq, nm_eq]
  rw [if_neg (fun z => z h26), if_pos k2, m_chk0 s, bnd_some, if_pos e, m_chk1, bnd_some, if_pos e, if_pos e, m_chk1, bnd_some, b_advance b, bnd_some, if_neg e]
theorem m_eng2 {N n fu k : Nat} {c : Nat → Int32} {μ' ν ν' : Mem} (h26 : ν.1 26 0 26 = 0) (k2 : ν.1 26 0 25 = 2) (ev : fX13_value fu 0 ν = some (nI k, ν)) (hk : 3 < k) (hk' : k < 2 ^ 31) (s : fX13_fail 0 2 ν = some ((), ν')) (b : PB N n c μ' ν') : fX13_readEngine fu 0 ν = some ((), ν') := by
  have e := b_err b
  have nn : ¬ ¬ ν.1 26 0 26 = 0 := fun z => z h26
  have rr : ¬ ((0 : Int32) ≤ nI k ∧ nI k ≤ 3) := fun z => absurd ((nI_leI (b := 3) (by omega) (by decide)).1 z.2) (by omega)
  unfold fX13_readEngine
  simp only [jn_eq, nm_eq]
  rw [if_neg nn, if_neg (fun z => z k2), m_chk1, bnd_some, if_neg nn, ev, bnd_some, r_inRange, bnd_some, if_neg rr, if_pos (show (0 : Int32) = 0 from rfl), m_chk0 s, bnd_some, if_pos e, if_pos e, m_chk1, bnd_some, b_advance b, bnd_some, if_neg e]
theorem m_eng4 {N n fu k : Nat} {c : Nat → Int32} {μ' ν ν' : Mem} (h26 : ν.1 26 0 26 = 0) (k2 : ν.1 26 0 25 = 2) (ev : fX13_value fu 0 ν = some (nI k, ν)) (hk : k < 4) (hd : ¬ ν.1 27 1 (476 + 21 * k) = 0) (s : fX13_fail 0 4 ν = some ((), ν')) (b : PB N n c μ' ν') : fX13_readEngine fu 0 ν = some ((), ν') := by
  have e := b_err b
  have nn : ¬ ¬ ν.1 26 0 26 = 0 := fun z => z h26
  have rr : (0 : Int32) ≤ nI k ∧ nI k ≤ 3 := ⟨(nI_leI (a := 0) (by decide) (by omega)).2 (by omega), (nI_leI (b := 3) (by omega) (by decide)).2 (by omega)⟩
  have ex : (476 : Int32) + 21 * nI k = nI (476 + 21 * k) := by rw [show (476 : Int32) = nI 476 from rfl, show (21 : Int32) = nI 21 from rfl, pk_mul, nI_add]
  have ck : ∀ {α : Type} (o : Option α), ckI (nI (476 + 21 * k + 0)) (if 1 = 4 then 7000 else 700) o = o := fun o => e_ck hk (by decide)
  unfold fX13_readEngine
  simp only [jn_eq, nm_eq]
  rw [if_neg nn, if_neg (fun z => z k2), m_chk1, bnd_some, if_neg nn, ev, bnd_some, r_inRange, bnd_some, if_pos rr, if_neg (show ¬ (1 : Int32) = 0 by decide), m_chk1, bnd_some, if_neg nn, ev, bnd_some, ex, if_neg nn, show nI (476 + 21 * k) + (0 : Int32) = nI (476 + 21 * k + 0) from e_add (k := 0), ck, e_cl hk (show 0 < 21 by decide), if_pos (show ¬ ν.1 27 1 (476 + 21 * k + 0) = 0 from hd), m_chk0 s, bnd_some, b_advance b, bnd_some, if_neg e]
theorem fcp_8 {s j k : Nat} {μ : Mem} {v : Int32} (hj : 4 * s ≤ j ∧ j < 4 * s + 4) : FcP s μ (wI μ 8 j k v) := ⟨fun κ a q _ _ z _ _ _ => wI_o (by omega), fun _ _ _ _ => rfl, rfl, id, fun ⟨x, h1, h2⟩ => ⟨x, h1, (wI_o (by omega)).trans h2⟩⟩
theorem p_engine {N n s t : Nat} {c : Nat → Int32} {M0 M1 : Md} {μ ν : Mem} (hM0 : MV M0) (hM1 : MV M1) (h0 : ∀ x, M0.1 x = some 0) (hs : s < 2) (h : PG N n c t μ ν) (hI : IC N n c s M0 t μ ν) (fu : Nat) :
    J2 N n c M0 M1 (fun μ => fX5_readEngine (fu + 2001) 0 μ) (fX13_readEngine (fu + 2001) 0 ν) t μ ν (IC N n c s) (fun M t' _ μ' ν' => IC N n c s M t' μ' ν') (FcP s) FmP () := by
  have hn : n ≤ 1000 := Nat.le_trans h.1.1 h.1.2.1
  have h26 := h.2.2.2.2.1
  have ht : t ≤ n := h.2.2.2.2.2.1.2.1
  have hI0 := hI
  obtain ⟨hL, hr, hS, m, cnt, hz, hN, hP, hX, hB⟩ := hI
  -- the way where both fail
  have bad : ∀ k μ' ν', FPc μ μ' → FPm ν ν' → PB N n c μ' ν' → fX5_readEngine (fu + 2001) 0 μ = cEng (fu + 2001) (4 * s) (wI μ' 8 (4 * s) 0 1) → fX13_readEngine (fu + 2001) 0 ν = some ((), ν') → k = () → J2 N n c M0 M1 (fun μ => fX5_readEngine (fu + 2001) 0 μ) (fX13_readEngine (fu + 2001) 0 ν) t μ ν (IC N n c s) (fun M t' _ μ' ν' => IC N n c s M t' μ' ν') (FcP s) FmP () := by
    intro _ μ' ν' f1 f2 b e1 e2 _
    have d' : DD N n c (wI μ' 8 (4 * s) 0 1) := dd_c (pb_dd b) (fun κ a q z => wI_o (by omega)) rfl
    refine ⟨(), _, ν', e1.trans (d_eng d'), e2, fcp_trans (fcp_p f1) (fcp_trans (fcp_8 (by omega)) (fcp_8 (by omega))), fmp_p f2, fn_p f2, Or.inl ⟨pb_c b (fun κ a q z => by rw [wI_o (by omega), wI_o (by omega)]) rfl, rfl⟩⟩
  by_cases q : syA N n c t = 3
  · obtain ⟨tn, k2, k, hk6, ev, e4⟩ := num_tok h q (fu + 1000)
    have e4 := e4 μ h.2.1
    by_cases hk : k < 4
    · rw [show min k 100000 = k by omega] at e4
      have td : TT M0.1 ν (476 + 21 * k) = ν.1 27 1 (476 + 21 * k) := tt_no hN (nf0 (Or.inr (Or.inr ⟨k, hk, rfl⟩)))
      by_cases hd : ν.1 27 1 (476 + 21 * k) = 0
      · obtain ⟨ν1, s1, s2, s3⟩ := p_next h tn (fu + 1000)
        have fw := fpm_fw s3
        have em := m_engA h k2 hk ev hd s1 s2.2.2.2.2.1
        have fmi : FmE k ν (iniM ν1 k) := fme_trans (fme_p fw) ⟨fun κ a q z1 z2 z3 => ini_o (by omega), rfl⟩
        have fni : FN ν (iniM ν1 k) := fn_of ((ini_o (by omega)).trans (fw.1 _ _ _ (by omega))) (fun j a h1 h2 => (ini_o (by omega)).trans (fw.1 _ _ _ (by omega)))
        refine j2_go (F' := fun μ => cEng (fu + 2001) (4 * s + k) μ) (t1 := t + 1) (ν1 := iniM ν1 k) (I1 := fun M t' μ' ν' => IS N n c cnt k (4 * s + k) (fun M => TT M.1 ν) 0 M t' μ' ν' ∧ PDk s M.2 cnt k μ' (TT M.1 ν) ∧ μ'.2.1 10 0 1 = s ∧ SY μ' ∧ EX M (TT M.1 ν) ∧ LBL N n c cnt μ' (iniM ν1 k))
          (fun μx => wI (wI μx 2 0 6 (nI (t + 1))) 8 (4 * s + k) 0 1) (fun _ _ _ => fcp_trans) (fun _ _ _ => fmp_trans) (by omega) (fun M μx hM hg hIx => ?_) h hI0 em (fmp_e fmi) fni (fun hg1 hi1 => ?_)
        · have hcx := hIx
          obtain ⟨hL', hr', hS', m', cnt', hz', hN', hP', hX', hB'⟩ := hIx
          obtain ⟨rfl, rfl⟩ := ic_cnt hI0 hcx _ _ _ _ hN hP hN' hP'
          have e4' : μx.1 4 2 t = nI k := (hg.2.1.2.1 t tn).2.2.1.trans ((h.2.1.2.1 t tn).2.2.1.symm.trans e4)
          have td' : TT M.1 ν (476 + 21 * k) = ν.1 27 1 (476 + 21 * k) := tt_no hN' (nf0 (Or.inr (Or.inr ⟨k, hk, rfl⟩)))
          have hMV : MV M := by rcases hM with rfl | rfl; exact hM0; exact hM1
          have pe := hP'.2.2.2.2.2.1 k hk
          have und : (∀ f, f < 21 → TT M.1 ν (476 + 21 * k + f) = 0) ∧ ∀ f, f < 20 → μx.1 8 (4 * s + k) f = clV f := by
            rcases pe with w | w
            · exact w
            · exact absurd ((w 0 (by decide)).2.symm.trans (td'.trans hd)) (by decide)
          have fc : FcE (4 * s + k) μx (wI (wI μx 2 0 6 (nI (t + 1))) 8 (4 * s + k) 0 1) := fce_trans (fce_p fpc_6) fce_w
          have pg1 : PG N n c (t + 1) (wI (wI μx 2 0 6 (nI (t + 1))) 8 (4 * s + k) 0 1) (iniM ν1 k) := pg_m (pg_c (pg_mix hg s2) (fun κ a q z => wI_o (by omega)) rfl) (fun q z1 z2 => ini_o (by omega)) (funext fun q => ini_o (by omega))
          have nmi : NM N c M.1 M.2 cnt m ν1 := nm_congr hN' (fun e he hx => by rw [fw.1 _ _ _ (by omega)]; exact hx) (fun a _ _ => funext fun q => fw.1 _ _ _ (by omega)) (fw.1 _ _ _ (by omega))
          have tti : TT M.1 ν1 = TT M.1 ν := tt_congr (funext fun q => fw.1 _ _ _ (by omega)) (funext fun q => fw.1 _ _ _ (by omega)) (funext fun q => fw.1 _ _ _ (by omega)) (fw.1 _ _ _ (by omega))
          have d1 : ν1.1 27 1 (476 + 21 * k) = 0 := (fw.1 _ _ _ (by omega)).trans hd
          obtain ⟨t1, t2⟩ := tt_set (ν' := iniM ν1 k) nmi (fun a => ∃ f, a = 476 + 21 * k + f ∧ (f = 0 ∨ f = 2 ∨ f = 4 ∨ f = 15 ∨ f = 17 ∨ f = 19 ∨ f = 20)) (fun a ha => ini_o (fun z => ha z.2.2)) (fun a ⟨f, f1, f2⟩ => ⟨fun e he hq => by
              have : e = k := by omega
              subst this; rw [d1]; decide, fun i _ hi => by omega⟩) (funext fun q => ini_o (by omega)) (funext fun q => ini_o (by omega)) (ini_o (by omega))
          refine ⟨c_engA hn hg.2.1 tn hg.2.2.1 q e4' hk hs hr' (und.2 0 (by decide)), pg1, ⟨⟨lc_c hL' (fun κ a q z => fc.1 κ a q (by omega) (by omega)), m, ?_, ?_, ?_, ?_, ?_⟩, pdk_c (pd_k hP') fc hk, by rw [fc.2]; exact hr', sy_same (by rw [fc.2]) hS', hX', ?_⟩, fcp_e hk fc⟩
          · have := tk_lt h.1 tn; omega
          · refine qs_ini hMV.1 (fun f hf => ?_) (fun f hf => ?_)
            · by_cases z : f = 0
              · subst z; rw [wI_same]; rfl
              · rw [wI_o (by omega), wI_o (by omega), und.2 f hf, if_neg z]
            · by_cases z : f = 0 ∨ f = 2 ∨ f = 4 ∨ f = 15 ∨ f = 17 ∨ f = 19 ∨ f = 20
              · rw [t1 _ ⟨f, rfl, z⟩, ini_at z]
              · rw [t2 _ (fun ⟨f', w1, w2⟩ => z (by rw [show f = f' by omega]; exact w2)), tti, und.1 f hf]
                unfold sIni
                rw [if_neg (by omega), if_neg (by omega), if_neg (by omega), if_neg (by omega), if_neg (by omega)]
          · exact nm_congr nmi (fun e he hx => by
              have ne : e ≠ k := fun z => by rw [z, d1] at hx; exact absurd hx (by decide)
              rw [ini_o (fun z => by obtain ⟨-, -, f, f1, f2⟩ := z; omega)]; exact hx) (fun a _ _ => funext fun q => ini_o (by omega)) (ini_o (by omega))
          · have := ini_at (ν := ν1) (e := k) (k := 0) (by omega)
            exact this
          · intro a ha
            rw [t2 _ (fun ⟨f', w1, w2⟩ => ha (by omega)), tti]
          · intro z
            obtain ⟨L, lt, la, lb, ll, l1, l2, l3⟩ := hB' ((fc.1 10 0 2 (by omega) (by omega)).symm.trans z)
            refine ⟨L, lt, la, lb, ll, ⟨(fc.1 _ _ _ (by omega) (by omega)).trans l1.1, l1.2.1, fun i hi => ?_⟩, fun a ha => ?_, l3⟩
            · obtain ⟨a1, a2, a3, a4⟩ := l1.2.2 i hi
              exact ⟨(fc.1 _ _ _ (by omega) (by omega)).trans a1, a2, (fc.1 _ _ _ (by omega) (by omega)).trans a3, a4⟩
            · obtain ⟨a1, a2, a3⟩ := l2 a ha
              exact ⟨(fmi.1 _ _ _ (by omega) (by omega) (by omega)).trans a1, (fmi.1 _ _ _ (by omega) (by omega) (by omega)).trans a2, a3⟩
        · have key := p_engIn (T0 := fun M => TT M.1 ν) hM0 hM1 h0 hk hP.1 hg1 hi1.1 fu
          refine j2_conv (fun _ _ w => fcp_e hk w) (fun _ _ w => fmp_e w) (fun _ _ _ _ w => w.1) (fun M μx μ' ν' t' b _ _ w fc fm fn v => ?_) hi1 key
          obtain ⟨-, w2, w3, w4, w5, w6⟩ := w
          obtain ⟨⟨v1, m', v2, v3, v4, v5, v6⟩, v7⟩ := v
          refine ⟨v1, by rw [fc.2]; exact w3, sy_same (by rw [fc.2]) w4, m', cnt, v2, v4, pd_join (pdk_c w2 fc hk) hk v6 v3, fun e he hx => v7, fun z => ?_⟩
          obtain ⟨L, lt, la, lb, ll, l1, l2, l3⟩ := w6 ((fc.1 10 0 2 (by omega) (by omega)).symm.trans z)
          refine ⟨L, lt, la, lb, ll, ⟨(fc.1 _ _ _ (by omega) (by omega)).trans l1.1, l1.2.1, fun i hi => ?_⟩, fun a ha => ?_, l3⟩
          · obtain ⟨a1, a2, a3, a4⟩ := l1.2.2 i hi
            exact ⟨(fc.1 _ _ _ (by omega) (by omega)).trans a1, a2, (fc.1 _ _ _ (by omega) (by omega)).trans a3, a4⟩
          · obtain ⟨a1, a2, a3⟩ := l2 a ha
            exact ⟨(fm.1 _ _ _ (by omega) (by omega) (by omega)).trans a1, (fm.1 _ _ _ (by omega) (by omega) (by omega)).trans a2, a3⟩
      · obtain ⟨μ', ν', f1, f2, f3, f4, f5⟩ := p_fail2 (k := 4) h (by decide)
        have ne : ¬ μ.1 8 (4 * s + k) 0 = 0 := fun z => by
          rcases hP.2.2.2.2.2.1 k hk with w | w
          · exact hd (td.symm.trans (w.1 0 (by decide)))
          · exact absurd ((w 0 (by decide)).1.symm.trans z) (by decide)
        exact bad () μ' ν' f4 f5 f3 (c_engB hn h.2.1 tn h.2.2.1 q e4 hk hs hr ne f1 (by rw [f4.2]; exact hr) (pb_dd f3)) (m_eng4 h26 k2 ev hk hd f2 f3) rfl
    · obtain ⟨μ', ν', f1, f2, f3, f4, f5⟩ := p_fail2 (k := 2) h (by decide)
      have en : fX11_takeNumber 0 0 3 μ = some (0, μ') := c_numBad (lo := 0) (hi := 3) hn h.2.1 tn h.2.2.1 q e4 (by omega) (by omega) (by omega) f1
      exact bad () μ' ν' f4 f5 f3 (c_engC (k := min k 100000) hn h.2.1 ht h.2.2.1 (fun _ => e4) (by omega) (fun z => by omega) hs hr en) (m_eng2 h26 k2 ev (by omega) (by omega) f2 f3) rfl
  · obtain ⟨μ', ν', f1, f2, f3, f4, f5⟩ := p_fail2 (k := 1) h (by decide)
    have en : fX11_takeNumber 0 0 3 μ = some (0, μ') := c_numNo hn h.2.1 ht h.2.2.1 q f1
    exact bad () μ' ν' f4 f5 f3 (c_engC (k := 0) hn h.2.1 ht h.2.2.1 (fun z => absurd z q) (by omega) (fun z => q z.1) hs hr en) (m_eng1 h26 (num_no h q) f2 f3) rfl
