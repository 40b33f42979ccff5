/-! PARSING: an instruction behind its label -/
def IX (N n : Nat) (c : Nat → Int32) (s cnt : Nat) (T0 : Md → Nat → Int32) (z i0 : Nat) (R : RR) (M : Md) (t : Nat) (μ ν : Mem) : Prop :=
  IO N n c i0 (33 * s + cnt) cnt z T0 R M t μ ν ∧ PDi s M.2 cnt μ (T0 M) ∧ μ.2.1 10 0 1 = s ∧ SY μ ∧ EX M (T0 M) ∧ LBL N n c (cnt + 1) μ ν
theorem p_ins {N n s t : Nat} {c : Nat → Int32} {M0 M1 : Md} {μ ν : Mem} (hM0 : MV M0) (hM1 : MV M1) (h0 : ∀ x, M0.1 x = some 0) (hs : s < 2) (h : PG N n c t μ ν) (hI : IL N n c s M0 t μ ν) (fu : Nat) :
    J2 N n c M0 M1 (fun μ => fX5_readInstruction (fu + 1001) 0 μ) (mIns (fu + 1001) ν) t μ ν (IL N n c s) (fun M t' _ μ' ν' => IC N n c s M t' μ' ν') (FcP s) FmP () := by
  have hn : n ≤ 1000 := Nat.le_trans h.1.1 h.1.2.1
  have h26 := h.2.2.2.2.1
  have ht : t ≤ n := h.2.2.2.2.2.1.2.1
  have hI0 := hI
  obtain ⟨hL, hr, hS, m, cnt, hz, hN, hP, hX, hB⟩ := hI
  have d0 : ν.1 27 1 0 = nI cnt := (tt_no hN (nf0 (Or.inl (by decide)))).symm.trans hP.2.1
  have hcnt := hP.1
  have ei : fX13_indexIn (fu + 1001) 0 0 ν = _ := p_index h (show 0 < 4 by decide) (fu + 951)
  rw [ix_0 _ syA_lt] at ei
  have rl := role1 _ (syA_lt (N := N) (n := n) (c := c) (t := t))
  -- where both fail
  have bad : ∀ μ1 ν1, FPc μ μ1 → FPm ν ν1 → PB N n c μ1 ν1 → fX5_readInstruction (fu + 1001) 0 μ = cI1 (fu + 1001) s μ1 → mIns (fu + 1001) ν = some ((), ν1) → J2 N n c M0 M1 (fun μ => fX5_readInstruction (fu + 1001) 0 μ) (mIns (fu + 1001) ν) t μ ν (IL N n c s) (fun M t' _ μ' ν' => IC N n c s M t' μ' ν') (FcP s) FmP () := by
    intro μ1 ν1 f1 f2 b e1 e2
    obtain ⟨μ2, k1, k2, k3⟩ := d_ins (F := fu + 1001) hs (pb_dd b) (sy_same (by rw [f1.2]) hS) ⟨cnt, hcnt, (f1.1 _ _ _ (by omega)).trans hP.2.2.1⟩
    exact ⟨(), μ2, ν1, e1.trans k1, e2, fcp_trans (fcp_p f1) k2, fmp_p f2, fn_p f2, Or.inl ⟨pb_c b k3.1 k3.2, rfl⟩⟩
  by_cases g : syR.getD (syA N n c t) 0 &&& 1 = 0
  · obtain ⟨μ1, ν1, f1, f2, f3, f4, f5⟩ := p_fail2 (k := 1) h (by decide)
    rw [if_neg (fun z => rl.2 z g)] at ei
    exact bad μ1 ν1 f4 f5 f3 (c_insN hn h.2.1 ht h.2.2.1 hs hr g f1 (pb_dd f3)) (m_insA h26 ei f2 f3)
  · have ro := rl.1 g
    rw [if_pos ro] at ei
    have ho : syA N n c t - 30 ≤ 12 := by omega
    by_cases hc : cnt < 32
    · have tn := role_lt g
      obtain ⟨ν1, s1, s2, s3⟩ := p_next h tn fu
      have fw := fpm_fw s3
      have em := m_insG h26 ho ei d0 hc s1 s2.2.2.2.2.1 ((fw.1 _ _ _ (by omega)).trans d0)
      have hol : opLen (syA N n c t) = true := (op_len _ (by omega)).resolve_left (by omega)
      unfold opLen at hol
      rw [Bool.and_eq_true] at hol
      have hol1 := of_decide_eq_true hol.1
      have len : tkP c N t + 2 ≤ tkP c N (t + 1) := by
        have := sy_len (N := N) (n := n) (c := c) (t := t) (r := syA N n c t) rfl syA_lt (by omega) hol.2
        omega
      let ν2 : Mem := wI (wI ν1 27 1 (284 + 6 * cnt + 0) (nI (syA N n c t - 30))) 27 1 (284 + 6 * cnt + 4) (-1)
      have sm : ∀ κ a q, ¬ (κ = 26 ∧ a = 0 ∧ 23 ≤ q ∧ q ≤ 27) → ¬ (κ = 27 ∧ a = 1 ∧ (q = 284 + 6 * cnt + 0 ∨ q = 284 + 6 * cnt + 4)) → ν2.1 κ a q = ν.1 κ a q := fun κ a q z w => by
        show (wI (wI ν1 27 1 (284 + 6 * cnt + 0) (nI (syA N n c t - 30))) 27 1 (284 + 6 * cnt + 4) (-1)).1 κ a q = _
        rw [wI_o (by omega), wI_o (by omega)]; exact fw.1 κ a q z
      have m0 : ν2.1 27 1 (284 + 6 * cnt + 0) = nI (syA N n c t - 30) := (wI_o (by omega)).trans wI_same
      have m4 : ν2.1 27 1 (284 + 6 * cnt + 4) = -1 := wI_same
      have fmi : FmI cnt ν ν2 := fmi_trans (fmi_p fw) (fmi_trans (fmi_w (by decide)) (fmi_w (by decide)))
      have fni : FN ν ν2 := fn_trans (fn_p fw) (fn_trans fn_w fn_w)
      rw [em]
      refine j2_go (F' := fun μ => bnd (fX5_readOperands (fu + 1001) 0 (33 * s + cnt) μ) fun _ μ20 => cTail (33 * s + cnt) μ20) (t1 := t + 1) (ν1 := ν2) (I1 := IX N n c s cnt (fun M => TT M.1 ν) 2 cnt (R0 (syA N n c t - 30)))
        (fun μx => wI (clr (wI μx 2 0 6 (nI (t + 1))) (33 * s + cnt) (syA N n c t)) 5 s 0 (nI (cnt + 1))) (fun _ _ _ => fcp_trans) (fun _ _ _ => fmp_trans) (by omega) (fun M μx hM hg hIx => ?_) h hI0 rfl (fmp_i fmi) fni (fun hg1 hi1 => ?_)
      · obtain ⟨hL', hr', hS', m', cnt', hz', hN', hP', hX', hB'⟩ := hIx
        have e1 := (tt_no hN' (nf0 (Or.inl (by decide : (0 : Nat) < 284)))).symm.trans hP'.2.1
        have := hP'.1
        have ec : cnt' = cnt := nI_inj (by omega) (by omega) (e1.symm.trans d0)
        have em' : m' = m := nI_inj (by have := hN'.2.1; omega) (by have := hN.2.1; omega) (hN'.1.symm.trans hN.1)
        subst ec em'
        have kt : KT (wI μx 2 0 6 (nI (t + 1))) (wI (clr (wI μx 2 0 6 (nI (t + 1))) (33 * s + cnt') (syA N n c t)) 5 s 0 (nI (cnt' + 1))) := kt_trans kt_clr ⟨fun κ a q z => wI_o (by omega), rfl⟩
        have pgx : PG N n c (t + 1) (wI (clr (wI μx 2 0 6 (nI (t + 1))) (33 * s + cnt') (syA N n c t)) 5 s 0 (nI (cnt' + 1))) ν2 := pg_m (pg_c (pg_mix hg s2) kt.1 kt.2) (fun q z w => (wI_o (by omega)).trans (wI_o (by omega))) (funext fun q => (wI_o (by omega)).trans (wI_o (by omega)))
        have fc1 : FcI (33 * s + cnt') μx (clr (wI μx 2 0 6 (nI (t + 1))) (33 * s + cnt') (syA N n c t)) := fci_trans (fci_p fpc_6) (fci_clr syA_lt)
        have fc : FcP s μx (wI (clr (wI μx 2 0 6 (nI (t + 1))) (33 * s + cnt') (syA N n c t)) 5 s 0 (nI (cnt' + 1))) := fcp_trans (fcp_i (by omega) fc1) (fcp_50 (by omega))
        have oth : ∀ κ a q, ¬ (κ = 2) → ¬ (κ = 9 ∧ a = 33 * s + cnt') → ¬ (κ = 5 ∧ a = s ∧ q = 0) → (wI (clr (wI μx 2 0 6 (nI (t + 1))) (33 * s + cnt') (syA N n c t)) 5 s 0 (nI (cnt' + 1))).1 κ a q = μx.1 κ a q := fun κ a q z1 z2 z3 => by
          rw [wI_o (by omega)]; exact fc1.1 κ a q (by omega) (by omega)
        have othr : ∀ κ a q, ¬ (κ = 9 ∧ a = 33 * s + cnt') → (wI (clr (wI μx 2 0 6 (nI (t + 1))) (33 * s + cnt') (syA N n c t)) 5 s 0 (nI (cnt' + 1))).2.1 κ a q = μx.2.1 κ a q := fun κ a q z => fc1.2.1 κ a q z
        have nfc : ∀ a, a = 284 + 6 * cnt' + 0 ∨ a = 284 + 6 * cnt' + 4 → nf cnt' a ν := fun a ha => ⟨fun e he hq => absurd hq (by omega), fun i hi hi' => by omega⟩
        obtain ⟨t1, t2⟩ := tt_set (ν' := ν2) hN' (fun a => a = 284 + 6 * cnt' + 0 ∨ a = 284 + 6 * cnt' + 4) (fun a ha => sm _ _ _ (by omega) (by omega)) nfc (funext fun q => sm _ _ _ (by omega) (by omega)) (funext fun q => sm _ _ _ (by omega) (by omega)) (sm _ _ _ (by omega) (by omega))
        obtain ⟨p1, p2, p3, p4, p5, p6, p7, p8, p9⟩ := hP'
        refine ⟨c_insY hn hg.2.1 ht hg.2.2.1 hs hr' g p3 hc, pgx, ⟨⟨lc_c hL' (fun κ a q z => oth _ _ _ (by omega) (by omega) (by omega)), m', by omega, nm_congr hN' (fun e he hx => by rw [sm _ _ _ (by omega) (by omega)]; exact hx) (fun a _ _ => funext fun q => sm _ _ _ (by omega) (by omega)) (sm _ _ _ (by omega) (by omega)), fun a ha => t2 a (by omega), ?_⟩, ⟨hc, p2, wI_same, fun a ha => relI_c (p4 a ha) (funext fun k => oth _ _ _ (by omega) (by omega) (by omega)) (funext fun k => othr _ _ _ (by omega)), fun a ha hb => p5 a (by omega) hb, fun e he => pe_c (p6 e he) (funext fun k => oth _ _ _ (by omega) (by omega) (by omega)) (fun _ _ => rfl), fun q hq => by rw [oth _ _ _ (by omega) (by omega) (by omega)]; exact p7 q hq, p8, p9⟩, (othr _ _ _ (by omega)).trans hr', fc.2.2.2.1 hS', hX', ?_⟩, fc⟩
        · have fr := p5 cnt' (Nat.le_refl _) hc
          refine ⟨(t1 _ (Or.inl rfl)).trans m0, (t2 _ (by omega)).trans (fr 1 (by omega)), (t2 _ (by omega)).trans (fr 2 (by omega)), (t2 _ (by omega)).trans (fr 3 (by omega)), (t1 _ (Or.inr rfl)).trans m4, (t2 _ (by omega)).trans (fr 5 (by omega)), ?_, ?_, ?_, ?_, ?_, ?_, ?_, ?_⟩
          · rw [wI_o (by omega)]; unfold clr; rw [wI_o (by omega), wI_o (by omega), wI_o (by omega)]; exact wI_same
          · rw [wI_o (by omega)]; unfold clr; rw [wI_o (by omega), wI_o (by omega)]; exact wI_same
          · rw [wI_o (by omega)]; unfold clr; rw [wI_o (by omega)]; exact wI_same
          · rw [wI_o (by omega)]; exact wI_same
          · show (wR (wR (wR (wI (wR (wI μx 2 0 6 (nI (t + 1))) 9 (33 * s + cnt') 0 (syA N n c t)) 9 (33 * s + cnt') 1 (-1)) 9 (33 * s + cnt') 2 0) 9 (33 * s + cnt') 3 0) 9 (33 * s + cnt') 4 0).2.1 9 (33 * s + cnt') 0 = _
            rw [wR_o (by omega), wR_o (by omega), wR_o (by omega)]
            show (wR (wI μx 2 0 6 (nI (t + 1))) 9 (33 * s + cnt') 0 (syA N n c t)).2.1 9 (33 * s + cnt') 0 = _
            rw [wR_same]; omega
          · show (wR (wR (wR (wI (wR (wI μx 2 0 6 (nI (t + 1))) 9 (33 * s + cnt') 0 (syA N n c t)) 9 (33 * s + cnt') 1 (-1)) 9 (33 * s + cnt') 2 0) 9 (33 * s + cnt') 3 0) 9 (33 * s + cnt') 4 0).2.1 9 (33 * s + cnt') 2 = _
            rw [wR_o (by omega), wR_o (by omega)]
            exact wR_same
          · show (wR (wR (wR (wI (wR (wI μx 2 0 6 (nI (t + 1))) 9 (33 * s + cnt') 0 (syA N n c t)) 9 (33 * s + cnt') 1 (-1)) 9 (33 * s + cnt') 2 0) 9 (33 * s + cnt') 3 0) 9 (33 * s + cnt') 4 0).2.1 9 (33 * s + cnt') 3 = _
            rw [wR_o (by omega)]
            exact wR_same
          · show (wR (wR (wR (wI (wR (wI μx 2 0 6 (nI (t + 1))) 9 (33 * s + cnt') 0 (syA N n c t)) 9 (33 * s + cnt') 1 (-1)) 9 (33 * s + cnt') 2 0) 9 (33 * s + cnt') 3 0) 9 (33 * s + cnt') 4 0).2.1 9 (33 * s + cnt') 4 = _
            exact wR_same
        · exact lbl_c (hB' hc) (fun κ a q z => oth _ _ _ (by omega) (by omega) (by omega)) (fun a q z => sm _ _ _ (by omega) (by omega))
      · have key := p_row (M1 := M1) (T0 := fun M => TT M.1 ν) ho hg1 hi1.1 hc hM0 hM1 h0 fu
        have k2 := j2_conv (Fc' := FcP s) (Fm' := FmP) (I0 := IX N n c s cnt (fun M => TT M.1 ν) 2 cnt (R0 (syA N n c t - 30))) (I0' := fun M t' (_ : Unit) μ' ν' => IX N n c s cnt (fun M => TT M.1 ν) 0 (cnt + 1) RI M t' μ' ν') (fun _ _ w => fcp_i (by omega) w) (fun _ _ w => fmp_i w) (fun _ _ _ _ w => w.1) (fun M μx μ' ν' t' b _ _ w fc fm fn v => ?_) hi1 key
        · have k3 := j2_seq (Fc := FcP s) (Fm := FmP) (F2 := fun μ => some ((), μ)) (FM2 := fun _ ν => mInc ν) (I2 := fun M t' _ μ' ν' => IC N n c s M t' μ' ν') (cv := ()) (fun _ _ _ => fcp_trans) (fun _ _ _ => fmp_trans) k2
            (fun t3 _ μ3 ν3 _ _ _ g3 i3 => j2_of (fun M μx _ gx ix => ?_) g3 i3)
            (fun μ0 μ' _ _ d => ⟨μ', rfl, fcp_rfl, kt_rfl⟩)
            (fun μ' ν' _ b => ⟨_, rfl, ⟨fun κ a q z1 z2 z3 => wI_o (by omega), rfl⟩, fn_w, fun _ _ _ => wI_o (by omega)⟩)
          · simp only [bnd_u] at k3
            exact k3
          · obtain ⟨⟨x1, m3, x2, x3, x4, x5⟩, x6, x7, x8, x9, x10⟩ := ix
            have nfx : nf (cnt + 1) 0 ν3 := nf0 (Or.inl (by decide))
            have dd0 : ν3.1 27 1 0 = nI cnt := (tt_no x3 nfx).symm.trans ((x4 0 (by omega)).trans x6.2.1)
            have tt : TT M.1 (wI ν3 27 1 0 (ν3.1 27 1 0 + 1)) = fun a => if a = 0 then nI (cnt + 1) else TT M.1 ν3 a := by rw [tt_w x3 nfx, dd0, nI_1]
            refine ⟨(), μx, _, rfl, rfl, fcp_rfl, ⟨fun κ a q z1 z2 z3 => wI_o (by omega), rfl⟩, fn_w, Or.inr ⟨t3, Nat.le_refl _, pg_m gx (fun q _ _ => wI_o (by omega)) (funext fun q => wI_o (by omega)), x1, x7, x8, m3, cnt + 1, by omega, nm_congr x3 (fun e he hx => by rw [wI_o (by omega)]; exact hx) (fun a _ _ => funext fun q => wI_o (by omega)) (wI_o (by omega)), ?_, ?_, lbl_c x10 (fun _ _ _ _ => rfl) (fun a q z => wI_o (by omega))⟩⟩
            · rw [tt]
              refine pd_instr x6 (fun a ha hb => (if_neg ha).trans (x4 a hb)) (if_pos rfl) ?_
              have ef : (fun k => (fun a => if a = 0 then nI (cnt + 1) else TT M.1 ν3 a) (284 + 6 * cnt + k)) = fun k => TT M.1 ν3 (284 + 6 * cnt + k) := funext fun k => if_neg (by omega)
              rw [ef]
              exact x5
            · intro e he hx
              rw [tt] at hx
              have hx : TT M.1 ν3 (476 + 21 * e) = 1 := (if_neg (show ¬ 476 + 21 * e = 0 by omega)).symm.trans hx
              exact x9 e he ((x4 _ (by omega)).symm.trans hx)
        · obtain ⟨-, w2, w3, w4, w5, w6⟩ := w
          exact ⟨v, pdi_c w2 fc, (fc.2.1 _ _ _ (by omega)).trans w3, fc.2.2.2 w4, w5, lbl_c w6 (fun κ a q z => fc.1 _ _ _ (by omega) (by omega)) (fun a q z => fm.1 _ _ _ (by omega) (by omega) (by omega))⟩
    · obtain ⟨μ1, ν1, f1, f2, f3, f4, f5⟩ := p_fail2 (k := 3) h (by decide)
      exact bad μ1 ν1 f4 f5 f3 (c_insF hn h.2.1 ht h.2.2.1 hs hr g hP.2.2.1 hcnt hc f1 (by rw [f4.2]; exact hr)) (m_insF h26 ho ei d0 hcnt hc f2 f3)
