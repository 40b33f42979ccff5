/-! PARSING: a whole program, both -/
def FcR (s : Nat) (μ μ' : Mem) : Prop :=
  (∀ κ a q, ¬ (κ = 2 ∧ a = 0 ∧ (q = 6 ∨ q = 7 ∨ q = 8)) → ¬ (κ = 5 ∧ a = s) → ¬ (κ = 8 ∧ 4 * s ≤ a ∧ a < 4 * s + 4) → ¬ (κ = 9 ∧ 33 * s ≤ a ∧ a < 33 * s + 33) → ¬ κ = 10 → ¬ κ = 11 → μ'.1 κ a q = μ.1 κ a q) ∧
  (∀ κ a q, ¬ (κ = 9 ∧ 33 * s ≤ a ∧ a < 33 * s + 33) → ¬ (κ = 10 ∧ a = 0 ∧ q = 1) → μ'.2.1 κ a q = μ.2.1 κ a q) ∧ μ'.2.2 = μ.2.2 ∧ (SY μ → SY μ')
theorem fcr_trans {s : Nat} {a b d : Mem} (h : FcR s a b) (g : FcR s b d) : FcR s a d :=
  ⟨fun κ n k z1 z2 z3 z4 z5 z6 => (g.1 κ n k z1 z2 z3 z4 z5 z6).trans (h.1 κ n k z1 z2 z3 z4 z5 z6), fun κ n k z w => (g.2.1 κ n k z w).trans (h.2.1 κ n k z w), g.2.2.1.trans h.2.2.1, fun z => g.2.2.2 (h.2.2.2 z)⟩
theorem fcr_p {s : Nat} {μ μ' : Mem} (h : FcP s μ μ') : FcR s μ μ' := ⟨fun κ a q z1 z2 z3 z4 z5 z6 => h.1 κ a q z1 z2 z3 z4 (by omega) z6, fun κ a q z _ => h.2.1 κ a q z, h.2.2.1, h.2.2.2.1⟩
theorem fcr_cl {s : Nat} {μ μ' : Mem} (h : FCl s μ μ') : FcR s μ μ' := ⟨fun κ a q _ z2 z3 _ _ _ => h.1 κ a q z2 z3, fun _ _ _ _ _ => by rw [h.2], by rw [h.2], sy_same (by rw [h.2])⟩
theorem fcr_10 {s k : Nat} {μ : Mem} {v : Int32} : FcR s μ (wI μ 10 0 k v) := ⟨fun κ a q _ _ _ _ z _ => wI_o (by omega), fun _ _ _ _ _ => rfl, rfl, id⟩
theorem fcr_6 {s : Nat} {μ : Mem} {v : Int32} : FcR s μ (wI μ 2 0 6 v) := fcr_p (fcp_p fpc_6)
theorem fcr_r {s v : Nat} {μ : Mem} : FcR s μ (wR μ 10 0 1 v) := ⟨fun _ _ _ _ _ _ _ _ _ => rfl, fun κ a q _ z => wR_o z, rfl, fun h j hj => by
  obtain ⟨a, b, c, d⟩ := h j hj
  exact ⟨by rw [wR_o (by omega)]; exact a, by rw [wR_o (by omega)]; exact b, by rw [wR_o (by omega)]; exact c, by rw [wR_o (by omega)]; exact d⟩⟩
theorem ct_c {N n : Nat} {c : Nat → Int32} {μ μ' : Mem} (h : CT N n c μ) (e : ∀ κ a q, ¬ (κ = 2 ∧ a = 0 ∧ q = 6) → κ = 1 ∨ κ = 2 ∨ κ = 4 → μ'.1 κ a q = μ.1 κ a q) (er : μ'.2.1 3 0 = μ.2.1 3 0) : CT N n c μ' := by
  obtain ⟨c1, c2, c3, c4, c5, c6, c7⟩ := h
  refine ⟨(e _ _ _ (by omega) (by omega)).trans c1, fun q hq => ?_, (e _ _ _ (by omega) (by omega)).trans c3, (e _ _ _ (by omega) (by omega)).trans c4, (congrFun er _).trans c5, (funext fun k => e _ _ _ (by omega) (by omega)).trans c6, fun w => (e _ _ _ (by omega) (by omega)).trans (c7 ((e _ _ _ (by omega) (by omega)).symm.trans w))⟩
  obtain ⟨a1, a2, a3, a4⟩ := c2 q hq
  exact ⟨(e _ _ _ (by omega) (by omega)).trans a1, (e _ _ _ (by omega) (by omega)).trans a2, (e _ _ _ (by omega) (by omega)).trans a3, (congrFun er _).trans a4⟩
/-- one reading of all clauses: it begins with a cleared program -/
theorem p_reading {N n s : Nat} {c : Nat → Int32} {M : Md} {μ ν : Mem} (hM : MV M) (hs : s < 2) (hT : TP N n c) (hC : CT N n c μ) (h7 : μ.1 2 0 7 = 0) (hS : SY μ) (hr : μ.2.1 10 0 1 = s) (hL : LC N n c M.1 μ) (hl : μ.1 10 0 2 = 0 → μ.1 10 0 3 = 0) (h26 : ν.1 26 0 26 = 0) (hw : TW N n c 0 ν) (hB : BY N (ν.1 28 7) c) (h39 : ν.1 26 0 39 = 0) (hd : ∀ a, a < 700 → ν.1 27 1 a = if a = 2 then -1 else 0) (fu : Nat) :
    ∃ μ1, FcR s μ μ1 ∧ PG N n c 0 μ1 ν ∧ IC N n c s M 0 μ1 ν ∧ μ1.1 10 0 2 = μ.1 10 0 2 ∧ fX5_readClauses (fu + 5) 0 μ = lp (fun _ _ => none) (fu + 5) (cCl (fu + 5)) μ1 0 := by
  obtain ⟨μa, f1, f2, f3⟩ := c_clauses (fu := fu) hs hr
  have o : ∀ κ a q, ¬ (κ = 2 ∧ a = 0 ∧ q = 6) → ¬ κ = 5 → ¬ κ = 8 → (wI μa 2 0 6 0).1 κ a q = μ.1 κ a q := fun κ a q z w v => by rw [wI_o z]; exact f1.1 κ a q (by omega) (by omega)
  have ct := ct_c (μ' := wI μa 2 0 6 0) hC (fun κ a q z w => o κ a q z (by omega) (by omega)) (by show μa.2.1 3 0 = _; rw [f1.2])
  have cld : Cld s (wI μa 2 0 6 0) := ⟨by rw [wI_o (by omega)]; exact f2.1, by rw [wI_o (by omega)]; exact f2.2.1, fun e he k hk => by rw [wI_o (by omega)]; exact f2.2.2 e he k hk⟩
  refine ⟨wI μa 2 0 6 0, fcr_trans (fcr_cl f1) fcr_6, ⟨hT, ct, wI_same, (o _ _ _ (by omega) (by omega) (by omega)).trans h7, h26, hw, hB⟩, ?_, o _ _ _ (by omega) (by omega) (by omega), f3⟩
  exact ic_start hM hs (lc_c hL (fun κ a q z => o _ _ _ (by omega) (by omega) (by omega))) (by show μa.2.1 10 0 1 = s; rw [f1.2]; exact hr) (sy_same (by show μa.2.1 = _; rw [f1.2]) hS) cld (fun z => (o _ _ _ (by omega) (by omega) (by omega)).trans (hl ((o _ _ _ (by omega) (by omega) (by omega)).symm.trans z))) h39 hd
theorem p_program {N n s : Nat} {c : Nat → Int32} {μ ν : Mem} (hs : s < 2) (hT : TP N n c) (hC : CT N n c μ) (h7 : μ.1 2 0 7 = 0) (hS : SY μ) (h26 : ν.1 26 0 26 = 0) (hw : TW N n c 0 ν) (hB : BY N (ν.1 28 7) c) (h39 : ν.1 26 0 39 = 0) (hd : ∀ a, a < 700 → ν.1 27 1 a = if a = 2 then -1 else 0) (fu : Nat) :
    ∃ μ' ν1 ν', fX5_readProgram (fu + 2001) 0 s μ = some ((), μ') ∧ (∀ {α : Type} (K : Mem → Option (α × Mem)), lp (fun _ => none) (fu + 2001) (mCl (fu + 2001) K) ν = K ν1) ∧ fX13_layNames (fu + 2001) 0 ν1 = some ((), ν') ∧ FcR s μ μ' ∧ FmP ν ν' ∧ μ'.2.1 10 0 1 = s ∧
      ((μ'.1 2 0 7 = 0 ∧ μ'.1 2 0 8 = -1 ∧ ν'.1 26 0 26 = 0 ∧ ∃ cnt, PD s (max cnt 1) cnt μ' (ν'.1 27 1) ∧ ∀ e, e < 4 → ν'.1 27 1 (476 + 21 * e) = 1 → 1 ≤ cnt) ∨
       (μ'.1 2 0 7 ≠ 0 ∧ ν'.1 26 0 26 = μ'.1 2 0 7 ∧ μ'.1 2 0 8 = ν'.1 26 0 27)) := by
  have hn : n ≤ 1000 := Nat.le_trans hT.1 hT.2.1
  let μa : Mem := wI (wI (wR μ 10 0 1 s) 10 0 2 0) 10 0 3 0
  have fa : FcR s μ μa := fcr_trans fcr_r (fcr_trans fcr_10 fcr_10)
  have oa : ∀ κ a q, ¬ κ = 10 → μa.1 κ a q = μ.1 κ a q := fun κ a q z => by
    show (wI (wI (wR μ 10 0 1 s) 10 0 2 0) 10 0 3 0).1 κ a q = _
    rw [wI_o (by omega), wI_o (by omega)]; rfl
  have ra : μa.2.1 10 0 1 = s := by show (wR μ 10 0 1 s).2.1 10 0 1 = s; exact wR_same
  have flag0 : μa.1 10 0 2 = 0 := (wI_o (by omega)).trans wI_same
  have cta : CT N n c μa := ct_c hC (fun κ a q _ w => oa κ a q (by omega)) (funext fun q => (wR_o (by omega)))
  let M0 : Md := (fun _ => some 0, 1)
  have hM0 : MV M0 := ⟨Nat.le_refl 1, (by decide : (1 : Nat) ≤ 33), fun x a h => by have := Option.some.inj h; show a < 1; omega⟩
  have h00 : ∀ x, M0.1 x = some 0 := fun _ => rfl
  obtain ⟨μb, b1, b2, b3, b4, b5⟩ := p_reading (M := M0) hM0 hs hT cta ((oa _ _ _ (by decide)).trans h7) (fa.2.2.2 hS) ra (Or.inl ⟨flag0, h00⟩) (fun _ => wI_same) h26 hw hB h39 hd (fu + 1996)
  have fl0 : μb.1 10 0 2 = 0 := b4.trans flag0
  have J := fun M1 (hM1 : MV M1) => p_clauses hM0 hM1 h00 hs fu 1000 0 0 (fu + 1000) (fu + 1000) μb ν (by omega) (by omega) b2 b3 fl0
  obtain ⟨u, μ2, ν1, s1, s2, s3, s4, s5, s6⟩ := J M0 hM0
  have eK : ∀ {α : Type} (K : Mem → Option (α × Mem)), lp (fun _ => none) (fu + 2001) (mCl (fu + 2001) K) ν = K ν1 := fun K => lp_K _ _ _ s2
  have rd1 : fX5_readClauses (fu + 2001) 0 μa = some ((), μ2) := b5.trans s1
  have rp : ∀ r, (if ¬ (μ2.1 2 0 7) = 0 then some ((), μ2) else bnd (fX5_readClauses (fu + 2001) 0 (wI μ2 10 0 2 1)) fun _ μ1 => some ((), μ1)) = r → fX5_readProgram (fu + 2001) 0 s μ = r := fun r h => by
    unfold fX5_readProgram
    simp only [jn_eq, nm_eq]
    rw [ckZ_ok (Or.inl rfl)]
    show (bnd (fX5_readClauses (fu + 2001) 0 μa) fun _ μ5 => if ¬ (μ5.1 2 0 7) = 0 then some ((), μ5) else ckZ 1 (bnd (fX5_readClauses (fu + 2001) 0 (wI μ5 10 0 2 1)) fun _ μ1 => some ((), μ1))) = r
    rw [rd1, bnd_some, ckZ_ok (Or.inr rfl)]
    exact h
  rcases s6 with ⟨s6, -⟩ | ⟨tn, -, s7, ⟨-, s8⟩, -⟩
  · have e7 := s6.2.2.2.1
    refine ⟨μ2, ν1, ν1, rp _ (if_pos e7), eK, m_layErr (b_err s6), fcr_trans fa (fcr_trans b1 (fcr_p s3)), s4, (s3.2.1 _ _ _ (by omega)).trans (ic_ci b3).1, Or.inr ⟨e7, s6.2.2.2.2.1, s6.2.2.2.2.2.1⟩⟩
  · have e7 := s7.2.2.2.1
    obtain ⟨hL2, hr2, hS2, m, cnt, hz, hN, hP, hX, hB2⟩ := s8
    have fl2 : μ2.1 10 0 2 = 0 := (s3.1 _ _ _ (by omega) (by omega) (by omega) (by omega) (by omega) (by omega)).trans fl0
    obtain ⟨L, lt, la, lb, ll, l1, l2, l3⟩ := hB2 fl2
    have d0 : ν1.1 27 1 0 = nI cnt := (tt_no hN (nf0 (Or.inl (by decide)))).symm.trans hP.2.1
    let M1 : Md := (fun x => lkG c N lt la x L 0, max cnt 1)
    have lkc : ∀ x a, lkG c N lt la x L 0 = some a → a < cnt := fun x a h => by
      obtain ⟨-, j, hj, e⟩ := lkG_le l1 L 0 (by omega) h
      have := l3.1 j hj
      omega
    have hM1 : MV M1 := ⟨Nat.le_max_right _ _, by have := hP.1; show max cnt 1 ≤ 33; omega, fun x a h => by have := lkc x a h; show a < max cnt 1; omega⟩
    -- the second reading
    let μc : Mem := wI μ2 10 0 2 1
    have oc : ∀ κ a q, ¬ (κ = 10 ∧ a = 0 ∧ q = 2) → μc.1 κ a q = μ2.1 κ a q := fun κ a q z => wI_o z
    have ctc : CT N n c μc := ct_c s7.2.1 (fun κ a q _ w => oc κ a q (by omega)) rfl
    have lcc : LC N n c M1.1 μc := Or.inr ⟨wI_same, L, lt, la, ⟨(oc _ _ _ (by omega)).trans l1.1, l1.2.1, fun i hi => by
      obtain ⟨a1, a2, a3, a4⟩ := l1.2.2 i hi
      exact ⟨(oc _ _ _ (by omega)).trans a1, a2, (oc _ _ _ (by omega)).trans a3, a4⟩⟩, fun _ => rfl⟩
    obtain ⟨μd, x1, x2, x3, x4, x5⟩ := p_reading (M := M1) hM1 hs hT ctc ((oc _ _ _ (by omega)).trans e7) (sy_same rfl hS2) hr2 lcc (fun z => absurd (wI_same.symm.trans z) (by decide)) h26 hw hB h39 hd (fu + 1996)
    obtain ⟨u', μ2', ν1', r1, r2, r3, r4, r5, r6⟩ := J M1 hM1
    obtain ⟨-, rfl⟩ := Prod.mk.inj (Option.some.inj (s2.symm.trans r2))
    rcases r6 with ⟨r6, -⟩ | ⟨tn', -, r7, -, r9⟩
    · exact absurd s7.2.2.2.2.1 (b_err r6)
    · obtain ⟨μe, y1, y2, y3⟩ := r9 μd x2 x3
      have rd2 : fX5_readClauses (fu + 2001) 0 μc = some ((), μe) := x5.trans y1
      have erp := rp (some ((), μe)) (by rw [if_neg (fun z => z e7)]; show bnd (fX5_readClauses (fu + 2001) 0 μc) _ = _; rw [rd2, bnd_some])
      have fr : FcR s μ μe := fcr_trans fa (fcr_trans b1 (fcr_trans (fcr_p s3) (fcr_trans fcr_10 (fcr_trans x1 (fcr_p y2)))))
      rcases y3 with ⟨y3, -, y4⟩ | y3
      · obtain ⟨-, -, -, m', cnt', -, hN', hP', hX', -⟩ := y4
        have d0' : ν1.1 27 1 0 = nI cnt' := (tt_no hN' (nf0 (Or.inl (by decide)))).symm.trans hP'.2.1
        have ce : cnt' = cnt := nI_inj (by have := hP'.1; omega) (by have := hP.1; omega) (d0'.symm.trans d0)
        subst ce
        obtain ⟨ν', z1, z2, z3, z4⟩ := m_layAll hT s7.2.2.2.2.2.2 hN' hP'.1 d0' l2 l3 (fun _ => rfl) hM1.2.1 s7.2.2.2.2.1 (fu + 1000)
        refine ⟨μe, ν1, ν', erp, eK, z1, fr, fmp_trans s4 ⟨fun κ a q w1 w2 w3 => z2 κ a q w2, z3⟩, (y2.2.1 _ _ _ (by omega)).trans (ic_ci x3).1, Or.inl ⟨y3.2.2.2.1, y3.2.1.2.2.2.2.2.2 y3.2.2.2.1, (z2 _ _ _ (by omega)).trans s7.2.2.2.2.1, cnt', by rw [z4]; exact hP', fun e he hx => ?_⟩⟩
        rw [z4] at hx
        obtain ⟨x, a, hxa⟩ := hX' e he hx
        have := lkc x a hxa
        omega
      · obtain ⟨dd, c5, m', k, x, p1, p2, p3, p4, p5, p6, p7, p8⟩ := y3
        have me : m' = m := nI_inj (by omega) (by have := hN.2.1; omega) (p1.symm.trans hN.1)
        subst me
        obtain ⟨ν', z1, z2, z3, z4, z5⟩ := m_layBad hT s7.2.2.2.2.2.2 hN hP.1 d0 l2 l3 (fun i hi => (l1.2.2 i hi).2.2.2) (fun _ => rfl) s7.2.2.2.2.1 p3 p4 p5 p7 p8 (fu + 1000)
        exact ⟨μe, ν1, ν', erp, eK, z1, fr, fmp_trans s4 ⟨fun κ a q w1 w2 w3 => z2 κ a q w2 (by omega), z3⟩, (y2.2.1 _ _ _ (by omega)).trans (ic_ci x3).1, Or.inr ⟨by rw [c5]; decide, z4.trans c5.symm, p6.trans z5.symm⟩⟩
