/-! QUERY: tests -/
def HX (X : Nat → Prop) (pe : Nat → Int32 → Option Int32) (μ : Mem) : Prop := ∀ e, e < 4 → X e → ∀ i, i < 12 → pe e (nI i) = some (clsv μ e i)
theorem hx_c {X : Nat → Prop} {pe : Nat → Int32 → Option Int32} {μ μ' : Mem} (h : HX X pe μ) (f : FcQ μ μ') : HX X pe μ' := fun e he hx i hi => by
  have : clsv μ' e i = clsv μ e i := by
    unfold clsv
    rw [f.1 _ _ _ (by omega) (by omega), f.1 _ _ _ (by omega) (by omega)]
  rw [this]; exact h e he hx i hi
def RQ (N n : Nat) (c : Nat → Int32) (X : Nat → Prop) (pe : Nat → Int32 → Option Int32) (t k dd : Nat) (m : Int32) (μ' ν' : Mem) : Prop :=
  ∃ t' k', t < t' ∧ k ≤ k' ∧ k' + t ≤ k + t' ∧ PG N n c t' μ' ν' ∧ ν'.1 26 0 46 = nI k' ∧ ν'.1 26 0 29 = nI dd ∧ ∀ e, e < 4 → X e → VAL (pe e) (ν'.1 28 15) k k' (b2 (bt m e))
/-- what a recursive reader does -/
def HR (N n : Nat) (c : Nat → Int32) (X : Nat → Prop) (pe : Nat → Int32 → Option Int32) (dd : Nat) (fc : Mem → Option (Int32 × Mem)) (fm : Mem → Option (Unit × Mem)) : Prop :=
  ∀ t k μ ν, PG N n c t μ ν → ν.1 26 0 46 = nI k → ν.1 26 0 29 = nI dd → k ≤ t → HX X pe μ → ∃ m μ' ν', fc μ = some (m, μ') ∧ fm ν = some ((), ν') ∧ FcQ μ μ' ∧ FmQ ν ν' ∧ (∀ j, j < k → ν'.1 28 15 j = ν.1 28 15 j) ∧ (RQ N n c X pe t k dd m μ' ν' ∨ PB N n c μ' ν')
def lBq (rec : Mem → Option (Int32 × Mem)) (w : Nat) (cop : Int32 → Int32 → Int32) : (Mem → Int32 → Int32 → Option (Int32 × Mem)) → Mem → Int32 → Int32 → Option (Int32 × Mem) := fun self μ1 x2 x3 =>
  if (200 : Int32) ≤ x3 then some (x2, μ1) else bnd (fX11_skip 0 w μ1) fun x8 μ7 => if x8 = 0 then some (x2, μ7) else bnd (rec μ7) fun x11 μ10 => self μ10 (cop x2 x11) (x3 + (1 : Int32))
def mBq (F : Nat) (rec : Mem → Option (Unit × Mem)) (ii : Nat) (op : Int32) : (Mem → Option (Unit × Mem)) → Mem → Option (Unit × Mem) := fun self μ1 =>
  bnd (fX13_accept F 0 ii μ1) fun x3 μ2 => if x3 = 0 then some ((), μ2) else bnd (rec μ2) fun _ μ5 => bnd (fX13_emit 0 op μ5) fun _ μ6 => self μ6
theorem lBq_d {N n : Nat} {c : Nat → Int32} {rec : Mem → Option (Int32 × Mem)} {w : Nat} {cop : Int32 → Int32 → Int32} {self : Mem → Int32 → Int32 → Option (Int32 × Mem)} {μ : Mem} {x y : Int32} (d : DD N n c μ) : lBq rec w cop self μ x y = some (x, μ) := by
  unfold lBq
  rw [d_skip d, bnd_some, if_pos (show (0 : Int32) = 0 from rfl), ite_self]
theorem p_opLoop {N n dd w ii t0 k0 F : Nat} {op : Int32} {cop : Int32 → Int32 → Int32} {c : Nat → Int32} {X : Nat → Prop} {pe : Nat → Int32 → Option Int32} {fc : Mem → Option (Int32 × Mem)} {fm : Mem → Option (Unit × Mem)} (hR : HR N n c X pe dd fc fm) (hn2 : n ≤ 200) (fu : Nat) (hF : F = fu + 1001)
    (hw : w < 74 ∧ syT.getD w 0 = ii ∧ 0 < txN.getD ii 0 ∧ tkL (txC ii 0) = true) (hop : ¬ op = -23 ∧ op ≤ -20) (hc : ∀ m m2 e, e < 4 → opr op (b2 (bt m e)) (b2 (bt m2 e)) = b2 (bt (cop m m2) e)) : ∀ d t1 k1 i m f1 f2 μ ν, n ≤ t1 + d → i < t1 → PG N n c t1 μ ν → ν.1 26 0 46 = nI k1 → ν.1 26 0 29 = nI dd → k1 ≤ t1 → k1 + t0 ≤ k0 + t1 → t0 < t1 → k0 ≤ k1 → HX X pe μ → (∀ e, e < 4 → X e → VAL (pe e) (ν.1 28 15) k0 k1 (b2 (bt m e))) →
    ∃ m' μ' ν', lp (fun _ _ _ => none) (f1 + (d + 1)) (lBq fc w cop) μ m (nI i) = some (m', μ') ∧ lp (fun _ => none) (f2 + (d + 1)) (mBq F fm ii op) ν = some ((), ν') ∧ FcQ μ μ' ∧ FmQ ν ν' ∧ (∀ j, j < k0 → ν'.1 28 15 j = ν.1 28 15 j) ∧ (RQ N n c X pe t0 k0 dd m' μ' ν' ∨ PB N n c μ' ν') := by
  intro d
  induction d with
  | zero =>
    intro t1 k1 i m f1 f2 μ ν hd hi h hk hdd hkt hkk htt hk01 hx hv
    have tn : t1 = n := by have := h.2.2.2.2.2.1.2.1; omega
    have q : syA N n c t1 ≠ w := fun z => syA_1 (N := N) (n := n) (c := c) (t := t1) (by rw [hw.2.1]; exact hw.2.2.1) (by omega) z
    have na := (no_acc h w ii hw q fu).1
    have gq : ¬ (t1 < n ∧ syA N n c t1 = w) := fun z => q z.2
    refine ⟨m, μ, ν, ?_, ?_, fcq_rfl, fmq_rfl, fun _ _ => rfl, Or.inl ⟨t1, k1, htt, hk01, hkk, h, hk, hdd, hv⟩⟩
    · rw [lp_succ]
      unfold lBq
      rw [c_skip (Nat.le_trans h.1.1 h.1.2.1) h.2.1 (by omega) h.2.2.1, if_neg gq, if_neg gq, bnd_some, if_pos (show (0 : Int32) = 0 from rfl), ite_self]
    · rw [lp_succ]
      unfold mBq
      rw [hF, na, bnd_some, if_pos (show (0 : Int32) = 0 from rfl)]
  | succ d ih =>
    intro t1 k1 i m f1 f2 μ ν hd hi h hk hdd hkt hkk htt hk01 hx hv
    have hn := Nat.le_trans h.1.1 h.1.2.1
    have ht1 : t1 ≤ n := h.2.2.2.2.2.1.2.1
    rw [show f1 + (d + 1 + 1) = (f1 + (d + 1)) + 1 from rfl, lp_succ, show f2 + (d + 1 + 1) = (f2 + (d + 1)) + 1 from rfl, lp_succ]
    by_cases q : syA N n c t1 = w
    · obtain ⟨-, ν1, ya, -, tn, g1, fp⟩ := yes_acc h w ii hw q fu
      have gq : t1 < n ∧ syA N n c t1 = w := ⟨tn, q⟩
      have cd1 : ∀ j, ν1.1 28 15 j = ν.1 28 15 j := fun j => fp.1 _ _ _ (by omega)
      obtain ⟨m2, μ2, ν2, r1, r2, r3, r4, r5, r6⟩ := hR (t1 + 1) k1 (wI μ 2 0 6 (nI (t1 + 1))) ν1 g1 ((fp.1 _ _ _ (by omega)).trans hk) ((fp.1 _ _ _ (by omega)).trans hdd) (by omega) (hx_c hx (fcq_p fpc_6))
      have eC : lBq fc w cop (lp (fun _ _ _ => none) (f1 + (d + 1)) (lBq fc w cop)) μ m (nI i) = lp (fun _ _ _ => none) (f1 + (d + 1)) (lBq fc w cop) μ2 (cop m m2) (nI (i + 1)) := by
        show (if (200 : Int32) ≤ nI i then _ else bnd (fX11_skip 0 w μ) fun x8 μ7 => if x8 = 0 then some (m, μ7) else bnd (fc μ7) fun x11 μ10 => lp (fun _ _ _ => none) (f1 + (d + 1)) (lBq fc w cop) μ10 (cop m x11) (nI i + 1)) = _
        rw [if_neg (show ¬ (200 : Int32) ≤ nI i from fun z => absurd ((nI_leI (a := 200) (by decide) (by omega)).1 z) (by omega)), c_skip hn h.2.1 ht1 h.2.2.1, if_pos gq, if_pos gq, bnd_some, if_neg (show ¬ (1 : Int32) = 0 by decide), r1, bnd_some, nI_1]
      have eM : mBq F fm ii op (lp (fun _ => none) (f2 + (d + 1)) (mBq F fm ii op)) ν = bnd (fX13_emit 0 op ν2) fun _ μ6 => lp (fun _ => none) (f2 + (d + 1)) (mBq F fm ii op) μ6 := by
        show (bnd (fX13_accept F 0 ii ν) fun x3 μ2 => if x3 = 0 then some ((), μ2) else bnd (fm μ2) fun _ μ5 => bnd (fX13_emit 0 op μ5) fun _ μ6 => lp (fun _ => none) (f2 + (d + 1)) (mBq F fm ii op) μ6) = _
        rw [hF, ya, bnd_some, if_neg (show ¬ (1 : Int32) = 0 by decide), r2, bnd_some]
      rw [eC, eM]
      have fc2 : FcQ μ μ2 := fcq_trans (fcq_p fpc_6) r3
      have fm2 : FmQ ν ν2 := fmq_trans (fmq_p fp) r4
      rcases r6 with ⟨t2, k2, a1, k12, a2, a3, a4, a5, a6⟩ | b
      · have ht2 : t2 ≤ n := a3.2.2.2.2.2.1.2.1
        have k200 : k2 < 200 := by omega
        rw [m_emit a3.2.2.2.2.1 a4 k200, bnd_some]
        obtain ⟨m', μ', ν', z1, z2, z3, z4, z5, z6⟩ := ih t2 (k2 + 1) (i + 1) (cop m m2) f1 f2 μ2 (emM ν2 k2 op) (by omega) (by omega) (pg_em a3) (by unfold emM; exact wI_same) (by unfold emM; rw [wI_o (by omega), wI_o (by omega)]; exact a5) (by omega) (by omega) (by omega) (by omega) (hx_c hx fc2) (fun e he hxe => by
            have c1 : VAL (pe e) ((emM ν2 k2 op).1 28 15) k0 k1 (b2 (bt m e)) := val_c (hv e he hxe) fun j hj => by
              unfold emM; rw [wI_o (by omega), wI_o (by omega), r5 j hj]; exact cd1 j
            have c2 : VAL (pe e) ((emM ν2 k2 op).1 28 15) k1 k2 (b2 (bt m2 e)) := val_c (a6 e he hxe) fun j hj => by
              unfold emM; rw [wI_o (by omega), wI_o (by omega)]
            have := val_bin c1 c2 (by unfold emM; rw [wI_o (by omega)]; exact wI_same) hop.1 hop.2
            rw [hc m m2 e he] at this
            exact this)
        exact ⟨m', μ', ν', z1, z2, fcq_trans fc2 z3, fmq_trans (fmq_trans fm2 fmq_e) z4, fun j hj => (z5 j hj).trans (by unfold emM; rw [wI_o (by omega), wI_o (by omega), r5 j (by omega)]; exact cd1 j), z6⟩
      · rw [b_emit b, bnd_some]
        refine ⟨cop m m2, μ2, ν2, ?_, ?_, fc2, fm2, fun j hj => (r5 j (by omega)).trans (cd1 j), Or.inr b⟩
        · rw [show f1 + (d + 1) = (f1 + d) + 1 from rfl, lp_succ, lBq_d (pb_dd b)]
        · rw [show f2 + (d + 1) = (f2 + d) + 1 from rfl, lp_succ]
          unfold mBq
          rw [hF, b_accept b, bnd_some, if_pos (show (0 : Int32) = 0 from rfl)]
    · have na := (no_acc h w ii hw q fu).1
      have gq : ¬ (t1 < n ∧ syA N n c t1 = w) := fun z => q z.2
      refine ⟨m, μ, ν, ?_, ?_, fcq_rfl, fmq_rfl, fun _ _ => rfl, Or.inl ⟨t1, k1, htt, hk01, hkk, h, hk, hdd, hv⟩⟩
      · unfold lBq
        rw [c_skip hn h.2.1 ht1 h.2.2.1, if_neg gq, if_neg gq, bnd_some, if_pos (show (0 : Int32) = 0 from rfl), ite_self]
      · unfold mBq
        rw [hF, na, bnd_some, if_pos (show (0 : Int32) = 0 from rfl)]
/-! the recursion -/
theorem m_enterG {N n t dd : Nat} {c : Nat → Int32} {μ ν : Mem} (h : PG N n c t μ ν) (hdd : ν.1 26 0 29 = nI dd) (hd : dd < 6) (tn : t < n) (fu : Nat) : ∃ ν', fX13_enter (fu + 1001) 0 ν = some ((), ν') ∧ PG N n c (t + 1) (wI μ 2 0 6 (nI (t + 1))) ν' ∧ ν'.1 26 0 29 = nI (dd + 1) ∧ FmQ ν ν' ∧ ν'.1 26 0 46 = ν.1 26 0 46 ∧ ∀ j, ν'.1 28 15 j = ν.1 28 15 j := by
  obtain ⟨ν', s1, s2, s3⟩ := p_next (pg_29 (x := nI (dd + 1)) h) tn fu
  have fw := fpm_fw s3
  refine ⟨ν', ?_, s2, (fw.1 _ _ _ (by omega)).trans wI_same, fmq_trans fmq_29 (fmq_p fw), (fw.1 _ _ _ (by omega)).trans (wI_o (by omega)), fun j => (fw.1 _ _ _ (by omega)).trans (wI_o (by omega))⟩
  unfold fX13_enter
  simp only [jn_eq, nm_eq]
  rw [hdd, if_neg (show ¬ (6 : Int32) ≤ nI dd from fun z => absurd ((nI_leI (a := 6) (by decide) (by omega)).1 z) (by omega)), m_chk1, bnd_some, hdd, nI_1]
  unfold fX13_advance
  simp only [jn_eq]
  rw [if_neg (fun z => z ((pg_29 (x := nI (dd + 1)) h).2.2.2.2.1)), s1, bnd_some, bnd_some]
theorem m_enterB {N n dd : Nat} {c : Nat → Int32} {μ' ν ν1 : Mem} (hdd : ν.1 26 0 29 = nI dd) (hd : 6 ≤ dd) (hd' : dd ≤ 6) (f : fX13_fail 0 3 ν = some ((), ν1)) (f29 : ν1.1 26 0 29 = nI dd) (b : PB N n c μ' ν1) (fu : Nat) : fX13_enter fu 0 ν = some ((), wI ν1 26 0 29 (nI (dd + 1))) := by
  unfold fX13_enter
  simp only [jn_eq, nm_eq]
  rw [hdd, if_pos (show (6 : Int32) ≤ nI dd from (nI_leI (a := 6) (by decide) (by omega)).2 hd), m_chk0 f, bnd_some, f29, nI_1, b_advance (pb_29 b), bnd_some]
theorem c_facEq {F : Nat} {rec : Nat → Nat → Int32 → Mem → Option (Int32 × Mem)} {p1 : Int32} {μ : Mem} : sX6_readFactor F rec 0 p1 μ = bnd (fX11_at 0 63 μ) fun x15 μ14 =>
    let K := fun (μ1 : Mem) => if p1 < (6 : Int32) then bnd (fX11_skip 0 63 μ1) fun x4 μ3 => if x4 = 0 then bnd (fX11_skip 0 7 μ3) fun x7 μ6 => bnd (rec 0 0 (p1 + (1 : Int32)) μ6) fun x9 μ8 => bnd (fX11_expect 0 8 μ8) fun _ μ10 => some (x9, μ10) else bnd (rec 2 0 (p1 + (1 : Int32)) μ3) fun x12 μ11 => some ((x12 ^^^ (-1 : Int32)), μ11) else bnd (fX11_fail 0 (3 : Int32) μ1) fun _ μ13 => some ((0 : Int32), μ13)
    if ¬ x15 = 0 then K μ14 else bnd (fX11_at 0 7 μ14) fun x18 μ17 => if ¬ x18 = 0 then K μ17 else bnd (fX6_readComparison F 0 μ17) fun x21 μ20 => some (x21, μ20) := by
  unfold sX6_readFactor
  simp only [jn_eq]
def mFin (ν : Mem) : Option (Unit × Mem) := some ((), wI ν 26 0 29 ((ν.1 26 0 29) - (1 : Int32)))
theorem m_facEq {F : Nat} {rec : Nat → Nat → Mem → Option (Unit × Mem)} {ν : Mem} : sX13_compileFactor F rec 0 ν = bnd (fX13_isWord F 0 52 ν) fun x3 μ2 => if x3 = 0 then bnd (fX13_isSymbol 0 40 μ2) fun x6 μ5 => if x6 = 0 then mCmp F μ5 else
      bnd (fX13_enter F 0 μ5) fun _ μ37 => if ¬ (μ37.1 26 0 26) = 0 then bnd (fX13_expect F 0 41 μ37) fun _ μ35 => mFin μ35 else bnd (rec 0 0 μ37) fun _ μ39 => bnd (fX13_expect F 0 41 μ39) fun _ μ35 => mFin μ35
    else bnd (fX13_enter F 0 μ2) fun _ μ43 => if ¬ (μ43.1 26 0 26) = 0 then bnd (fX13_emit 0 (-23) μ43) fun _ μ41 => mFin μ41 else bnd (rec 2 0 μ43) fun _ μ45 => bnd (fX13_emit 0 (-23) μ45) fun _ μ41 => mFin μ41 := by
  unfold sX13_compileFactor mCmp mJq mFin
  simp only [jn_eq, nm_eq]
theorem p_factor {N n dd : Nat} {c : Nat → Int32} {X : Nat → Prop} {pe : Nat → Int32 → Option Int32} {recC : Nat → Nat → Int32 → Mem → Option (Int32 × Mem)} {recM : Nat → Nat → Mem → Option (Unit × Mem)} (hd : dd ≤ 6) (hn2 : n ≤ 200) (fu : Nat)
    (h2 : dd < 6 → HR N n c X pe (dd + 1) (recC 2 0 (nI (dd + 1))) (recM 2 0)) (h0 : dd < 6 → HR N n c X pe (dd + 1) (recC 0 0 (nI (dd + 1))) (recM 0 0)) : HR N n c X pe dd (sX6_readFactor (fu + 1001) recC 0 (nI dd)) (sX13_compileFactor (fu + 1001) recM 0) := by
  intro t k μ ν h hk hdd hkt hx
  have hn := Nat.le_trans h.1.1 h.1.2.1
  have ht : t ≤ n := h.2.2.2.2.2.1.2.1
  have h26 := h.2.2.2.2.1
  have s40 : fX13_isSymbol 0 40 ν = _ := p_sign (r := 7) h (by decide) (by decide) (by decide) (by decide) (by decide)
  have at63 := c_at (a := 63) hn h.2.1 ht h.2.2.1
  have at7 := c_at (a := 7) hn h.2.1 ht h.2.2.1
  have sub1 : nI (dd + 1) - 1 = nI dd := pk_sub (a := dd + 1) (b := 1) (by omega)
  rw [c_facEq, m_facEq, at63, bnd_some]
  dsimp only
  -- where the two open one too many
  have deep : ∀ FM, 6 ≤ dd → FM = (bnd (fX13_enter (fu + 1001) 0 ν) fun _ μ43 => if ¬ (μ43.1 26 0 26) = 0 then bnd (fX13_emit 0 (-23) μ43) fun _ μ41 => mFin μ41 else bnd (recM 2 0 μ43) fun _ μ45 => bnd (fX13_emit 0 (-23) μ45) fun _ μ41 => mFin μ41) ∨ FM = (bnd (fX13_enter (fu + 1001) 0 ν) fun _ μ37 => if ¬ (μ37.1 26 0 26) = 0 then bnd (fX13_expect (fu + 1001) 0 41 μ37) fun _ μ35 => mFin μ35 else bnd (recM 0 0 μ37) fun _ μ39 => bnd (fX13_expect (fu + 1001) 0 41 μ39) fun _ μ35 => mFin μ35) →
      ∃ m μ' ν', (bnd (fX11_fail 0 (3 : Int32) μ) fun _ μ13 => some ((0 : Int32), μ13)) = some (m, μ') ∧ FM = some ((), ν') ∧ FcQ μ μ' ∧ FmQ ν ν' ∧ (∀ j, j < k → ν'.1 28 15 j = ν.1 28 15 j) ∧ (RQ N n c X pe t k dd m μ' ν' ∨ PB N n c μ' ν') := by
    intro FM hd6 hFM
    obtain ⟨μ1, ν1, f1, f2, f3, f4, f5⟩ := p_fail2 (k := 3) h (by decide)
    have en := m_enterB hdd hd6 hd f2 ((f5.1 _ _ _ (by omega)).trans hdd) f3 (fu + 1001)
    have b1 : PB N n c μ1 (wI ν1 26 0 29 (nI (dd + 1))) := pb_29 f3
    refine ⟨0, μ1, wI (wI ν1 26 0 29 (nI (dd + 1))) 26 0 29 ((wI ν1 26 0 29 (nI (dd + 1))).1 26 0 29 - 1), by rw [f1, bnd_some], ?_, fcq_p f4, fmq_trans (fmq_p f5) (fmq_trans fmq_29 fmq_29), fun j hj => by rw [wI_o (by omega), wI_o (by omega)]; exact f5.1 _ _ _ (by omega), Or.inr (pb_29 b1)⟩
    rcases hFM with e | e
    · rw [e, en, bnd_some, if_pos (b_err b1), b_emit b1, bnd_some]
      rfl
    · rw [e, en, bnd_some, if_pos (b_err b1), (b_expect (a := 0) b1 _).2, bnd_some]
      rfl
  by_cases q1 : syA N n c t = 63
  · obtain ⟨yw, -, -, -, tn, -, -⟩ := yes_acc h 63 52 (by decide) q1 fu
    have gq : t < n ∧ syA N n c t = 63 := ⟨tn, q1⟩
    rw [if_pos q1, if_pos (show ¬ (1 : Int32) = 0 by decide), yw, bnd_some, if_neg (show ¬ (1 : Int32) = 0 by decide)]
    by_cases d6 : dd < 6
    · obtain ⟨ν1, e1, e2, e3, e4, e5, e6⟩ := m_enterG h hdd d6 tn fu
      obtain ⟨m, μ2, ν2, r1, r2, r3, r4, r5, r6⟩ := h2 d6 (t + 1) k (wI μ 2 0 6 (nI (t + 1))) ν1 e2 (e5.trans hk) e3 (by omega) (hx_c hx (fcq_p fpc_6))
      rw [if_pos (show nI dd < (6 : Int32) from (nI_ltI (b := 6) (by omega) (by decide)).2 d6), c_skip hn h.2.1 ht h.2.2.1, if_pos gq, if_pos gq, bnd_some, if_neg (show ¬ (1 : Int32) = 0 by decide), nI_1, r1, bnd_some, e1, bnd_some, if_neg (fun z => z e2.2.2.2.2.1), r2, bnd_some]
      have fc2 : FcQ μ μ2 := fcq_trans (fcq_p fpc_6) r3
      have fm2 : FmQ ν ν2 := fmq_trans e4 r4
      rcases r6 with ⟨t2, k2, a1, k12, a2, a3, a4, a5, a6⟩ | b
      · have ht2 : t2 ≤ n := a3.2.2.2.2.2.1.2.1
        rw [m_emit a3.2.2.2.2.1 a4 (by omega), bnd_some]
        have e29 : (emM ν2 k2 (-23)).1 26 0 29 = nI (dd + 1) := by unfold emM; rw [wI_o (by omega), wI_o (by omega)]; exact a5
        unfold mFin
        rw [e29, sub1]
        refine ⟨_, μ2, _, rfl, rfl, fc2, fmq_trans (fmq_trans fm2 fmq_e) fmq_29, fun j hj => ?_, Or.inl ⟨t2, k2 + 1, by omega, by omega, by omega, pg_29 (pg_em a3), ?_, wI_same, fun e he hxe => ?_⟩⟩
        · rw [wI_o (by omega)]; unfold emM; rw [wI_o (by omega), wI_o (by omega), r5 j hj]; exact e6 j
        · rw [wI_o (by omega)]; unfold emM; exact wI_same
        · have c1 : VAL (pe e) ((wI (emM ν2 k2 (-23)) 26 0 29 (nI dd)).1 28 15) k k2 (b2 (bt m e)) := val_c (a6 e he hxe) fun j hj => by
            rw [wI_o (by omega)]; unfold emM; rw [wI_o (by omega), wI_o (by omega)]
          have := val_not c1 (by rw [wI_o (by omega)]; unfold emM; rw [wI_o (by omega)]; exact wI_same)
          have nb : ∀ b : Bool, (1 : Int32) - b2 b = b2 (!b) := fun b => by cases b <;> decide
          rw [nb, ← bt_not (show e < 32 by omega)] at this
          exact this
      · rw [b_emit b, bnd_some]
        unfold mFin
        exact ⟨_, μ2, _, rfl, rfl, fc2, fmq_trans fm2 fmq_29, fun j hj => by rw [wI_o (by omega), r5 j hj]; exact e6 j, Or.inr (pb_29 b)⟩
    · rw [if_neg (show ¬ nI dd < (6 : Int32) from fun z => d6 ((nI_ltI (b := 6) (by omega) (by decide)).1 z))]
      exact deep _ (by omega) (Or.inl rfl)
  · have nw := (no_acc h 63 52 (by decide) q1 fu).2
    have gq1 : ¬ (t < n ∧ syA N n c t = 63) := fun z => q1 z.2
    rw [if_neg q1, if_neg (fun z => z rfl), at7, bnd_some, nw, bnd_some, if_pos (show (0 : Int32) = 0 from rfl), s40, bnd_some]
    by_cases q2 : syA N n c t = 7
    · have tn : t < n := Classical.byContradiction fun z => by rw [sy_end z] at q2; exact absurd q2 (by decide)
      have gq : t < n ∧ syA N n c t = 7 := ⟨tn, q2⟩
      rw [if_pos q2, if_pos (show ¬ (1 : Int32) = 0 by decide), if_neg (show ¬ (1 : Int32) = 0 by decide)]
      by_cases d6 : dd < 6
      · obtain ⟨ν1, e1, e2, e3, e4, e5, e6⟩ := m_enterG h hdd d6 tn fu
        obtain ⟨m, μ2, ν2, r1, r2, r3, r4, r5, r6⟩ := h0 d6 (t + 1) k (wI μ 2 0 6 (nI (t + 1))) ν1 e2 (e5.trans hk) e3 (by omega) (hx_c hx (fcq_p fpc_6))
        rw [if_pos (show nI dd < (6 : Int32) from (nI_ltI (b := 6) (by omega) (by decide)).2 d6), c_skip hn h.2.1 ht h.2.2.1, if_neg gq1, if_neg gq1, bnd_some, if_pos (show (0 : Int32) = 0 from rfl), c_skip hn h.2.1 ht h.2.2.1, if_pos gq, if_pos gq, bnd_some, nI_1, r1, bnd_some, e1, bnd_some, if_neg (fun z => z e2.2.2.2.2.1), r2, bnd_some]
        have fc2 : FcQ μ μ2 := fcq_trans (fcq_p fpc_6) r3
        have fm2 : FmQ ν ν2 := fmq_trans e4 r4
        rcases r6 with ⟨t2, k2, a1, k12, a2, a3, a4, a5, a6⟩ | b
        · obtain ⟨μ3, ν3, s1, s2, s3, s4, s5⟩ := p_expect (r := 8) (p := 41) a3 (by decide) (by decide) (by decide) (by decide) (by decide) fu
          rw [s1, bnd_some, s2, bnd_some]
          unfold mFin
          have e29 : ν3.1 26 0 29 = nI (dd + 1) := (s5.1 _ _ _ (by omega)).trans a5
          rw [e29, sub1]
          refine ⟨m, μ3, _, rfl, rfl, fcq_trans fc2 (fcq_p s4), fmq_trans (fmq_trans fm2 (fmq_p s5)) fmq_29, fun j hj => by rw [wI_o (by omega), s5.1 _ _ _ (by omega), r5 j hj]; exact e6 j, ?_⟩
          rcases s3 with ⟨-, l, g3⟩ | ⟨-, b⟩
          · refine Or.inl ⟨t2 + 1, k2, by omega, k12, by omega, pg_29 g3, by rw [wI_o (by omega), s5.1 _ _ _ (by omega)]; exact a4, wI_same, fun e he hxe => val_c (a6 e he hxe) fun j hj => by rw [wI_o (by omega)]; exact s5.1 _ _ _ (by omega)⟩
          · exact Or.inr (pb_29 b)
        · rw [d_expect (pb_dd b), bnd_some, (b_expect (a := 0) b _).2, bnd_some]
          unfold mFin
          exact ⟨m, μ2, _, rfl, rfl, fc2, fmq_trans fm2 fmq_29, fun j hj => by rw [wI_o (by omega), r5 j hj]; exact e6 j, Or.inr (pb_29 b)⟩
      · rw [if_neg (show ¬ nI dd < (6 : Int32) from fun z => d6 ((nI_ltI (b := 6) (by omega) (by decide)).1 z))]
        exact deep _ (by omega) (Or.inr rfl)
    · rw [if_neg q2, if_neg (fun z => z rfl), if_pos (show (0 : Int32) = 0 from rfl)]
      obtain ⟨m, μ1, ν1, r1, r2, r3, r4, r5, r6, r7⟩ := p_cmp (X := X) (pe := pe) h hk hkt hn2 hx fu
      refine ⟨m, μ1, ν1, by rw [r1, bnd_some], r2, r3, r4, r5, ?_⟩
      rcases r7 with ⟨a1, a2, a3⟩ | b
      · exact Or.inl ⟨t + 3, k + 3, by omega, by omega, by omega, a1, a2, r6.trans hdd, a3⟩
      · exact Or.inr b
