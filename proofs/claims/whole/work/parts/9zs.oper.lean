/-! PARSING: the operands -/
def relO (o B : Nat) (P m : Nat → Int32) (r : Nat → Nat) : Prop :=
  match o with
  | 0 => ∃ c b : Nat, c ≤ 7 ∧ b < B ∧ P 1 = nI c ∧ P 2 = nI b ∧ m 1 = -1 ∧ r 2 = (if c = 0 then 0 else 42 + c) ∧ r 3 = 0 ∧ r 4 = 0 ∧ m 5 = nI b
  | 1 => ∃ a f n : Nat, a ≤ 1 ∧ f ≤ 1 ∧ n < (if f = 1 then 8 else 16) ∧ P 1 = nI a ∧ P 2 = nI f ∧ P 3 = nI n ∧ m 1 = nI a ∧ r 2 = (if f = 1 then 50 else 48) ∧ r 3 = 0 ∧ r 4 = 0 ∧ m 5 = nI n
  | 2 => ∃ c s n : Nat, isPl c s ∧ c ≤ 5 ∧ 1 ≤ n ∧ n ≤ 32 ∧ P 1 = nI c ∧ P 2 = nI n ∧ m 1 = -1 ∧ r 2 = s ∧ r 3 = 0 ∧ r 4 = 0 ∧ m 5 = nI n
  | 3 => ∃ c s n : Nat, isPl c s ∧ c ≠ 5 ∧ c ≠ 6 ∧ 1 ≤ n ∧ n ≤ 32 ∧ P 1 = nI c ∧ P 2 = nI n ∧ m 1 = -1 ∧ r 2 = s ∧ r 3 = 0 ∧ r 4 = 0 ∧ m 5 = nI n
  | 4 => ∃ a b : Nat, a ≤ 1 ∧ b ≤ 1 ∧ P 1 = nI a ∧ P 2 = nI b ∧ m 1 = -1 ∧ r 2 = (if a = 1 then 60 else 0) ∧ r 3 = 0 ∧ r 4 = (if b = 1 then 62 else 0) ∧ m 5 = -1
  | 5 => ∃ a b : Nat, a ≤ 1 ∧ b ≤ 1 ∧ P 1 = nI a ∧ P 2 = nI b ∧ m 1 = -1 ∧ r 2 = (if a = 1 then 61 else 0) ∧ r 3 = 0 ∧ r 4 = (if b = 1 then 62 else 0) ∧ m 5 = -1
  | 6 => ∃ c s d c2 s2 : Nat, isPl c s ∧ c ≠ 3 ∧ c ≠ 6 ∧ c ≠ 7 ∧ d ≤ 2 ∧ isPl c2 s2 ∧ c2 ≤ 6 ∧ P 1 = nI c ∧ P 2 = nI d ∧ P 3 = nI c2 ∧ m 1 = -1 ∧ r 2 = s ∧ r 3 = (if d = 0 then 0 else 62 + d) ∧ r 4 = s2 ∧ m 5 = -1
  | 10 => ∃ c s n : Nat, isPl c s ∧ (c = 0 ∨ c = 1 ∨ c = 2 ∨ c = 7) ∧ n < 32 ∧ P 1 = nI c ∧ P 2 = nI n ∧ m 1 = -1 ∧ r 2 = s ∧ r 3 = 0 ∧ r 4 = 0 ∧ m 5 = nI n
  | 11 => ∃ c s b : Nat, isPl c s ∧ (c = 1 ∨ c = 2 ∨ c = 5) ∧ b < 18 ∧ P 1 = nI c ∧ P 2 = nI b ∧ m 1 = -1 ∧ r 2 = s ∧ r 3 = 0 ∧ r 4 = (if b < 16 then 0 else 36 + b) ∧ m 5 = (if b < 16 then nI b else -1)
  | 12 => ∃ c s b : Nat, isPl c s ∧ (c = 1 ∨ c = 2 ∨ c = 4) ∧ b < 18 ∧ P 1 = nI c ∧ P 2 = nI b ∧ m 1 = -1 ∧ r 2 = s ∧ r 3 = 0 ∧ r 4 = (if b < 16 then 0 else 36 + b) ∧ m 5 = (if b < 16 then nI b else -1)
  | _ => ∃ a : Nat, a < 8 ∧ P 1 = nI a ∧ m 1 = -1 ∧ r 2 = 0 ∧ r 3 = 0 ∧ r 4 = 0 ∧ m 5 = nI a
theorem relI_iff {μ : Mem} {j B : Nat} {P : Nat → Int32} : relI μ j B P ↔ ∃ o : Nat, o ≤ 12 ∧ P 0 = nI o ∧ μ.2.1 9 j 0 = 30 + o ∧ ((P 4 = -1 ∧ μ.1 9 j 6 = -1) ∨ ∃ n : Nat, n < 16 ∧ P 4 = nI n ∧ μ.1 9 j 6 = nI n) ∧ (∃ n : Nat, n < 32 ∧ P 5 = nI n ∧ μ.1 9 j 7 = nI n) ∧ relO o B P (μ.1 9 j) (μ.2.1 9 j) := Iff.rfl
def R0 (o : Nat) : RR := fun _ P m r => P 0 = nI o ∧ P 1 = 0 ∧ P 2 = 0 ∧ P 3 = 0 ∧ P 4 = -1 ∧ P 5 = 0 ∧ m 1 = -1 ∧ m 5 = -1 ∧ m 6 = -1 ∧ m 7 = 0 ∧ r 0 = 30 + o ∧ r 2 = 0 ∧ r 3 = 0 ∧ r 4 = 0
def RF (o : Nat) : RR := fun B P m r => P 0 = nI o ∧ r 0 = 30 + o ∧ P 4 = -1 ∧ P 5 = 0 ∧ m 6 = -1 ∧ m 7 = 0 ∧ relO o B P m r
theorem io_mono {N n i0 i1 j cnt z z' t : Nat} {c : Nat → Int32} {T0 : Md → Nat → Int32} {R R' : RR} {M : Md} {μ ν : Mem} (h : IO N n c i0 j cnt z T0 R M t μ ν) (hi : i0 ≤ i1) (hz : z' ≤ z) (hR : ∀ B P m r, R B P m r → R' B P m r) : IO N n c i1 j cnt z' T0 R' M t μ ν := by
  obtain ⟨h1, m, h2, h3, h4, h5⟩ := h
  exact ⟨h1, m, by omega, nm_mono h3 hi, h4, hR _ _ _ _ h5⟩
def spA (R : RR) : RR := fun B P m r => ∃ b : Nat, b < B ∧ P 2 = nI b ∧ m 5 = nI b ∧ ∃ P0 m0, R B P0 m0 r ∧ (∀ i, i ≠ 2 → P i = P0 i) ∧ ∀ i, i ≠ 5 → m i = m0 i
theorem op_name {N n j cnt z t : Nat} {c : Nat → Int32} {T0 : Md → Nat → Int32} {R : RR} {M0 M1 : Md} {μ ν : Mem} (h : PG N n c t μ ν) (hI : IO N n c (cnt + 1) j cnt (z + 2) T0 R M0 t μ ν) (hc : cnt < 32) (hM0 : MV M0) (hM1 : MV M1) (h0 : ∀ x, M0.1 x = some 0) (fu : Nat) :
    J2 N n c M0 M1 (fun μ => bnd (fX5_takeName (fu + 1001) 0 μ) fun x μ1 => some ((), wI μ1 9 j 5 x)) (fX13_readName (fu + 1001) 0 (nI (284 + 6 * cnt + 2)) ν) t μ ν (IO N n c (cnt + 1) j cnt (z + 2) T0 R) (fun M t' _ μ' ν' => IO N n c (cnt + 1) j cnt z T0 (spA R) M t' μ' ν') (FcI j) (FmI cnt) () := by
  by_cases q : syA N n c t = 2
  · obtain ⟨l, -⟩ := sy_2 q
    have xl := h.1.2.2.1 t l
    have hN := h.1.2.1
    obtain ⟨hL, m, hz, hE⟩ := hI
    have hm : m < 400 := by omega
    have gx := tk_gt (c := c) xl
    have nx : tkE c N (tkP c N t) ≤ tkP c N (t + 1) := tk_next
    have hg : 284 + 6 * cnt + 2 < 700 := by omega
    obtain ⟨ν1, s1, s2, s3⟩ := p_nameM h hE.1.1 hm q hg fu
    have n39 := hE.1.1
    have fm : FmI cnt ν ν1 := fmi_trans fmi_n (fmi_p s3)
    have fn : FN ν ν1 := fn_trans (fn_note hm n39) (fn_p s3)
    have good : ∀ M μx a, MV M → PG N n c t μx ν → IO N n c (cnt + 1) j cnt (z + 2) T0 R M t μx ν → M.1 (tkP c N t) = some a → fX5_takeName (fu + 1001) 0 μx = some (nI a, wI μx 2 0 6 (nI (t + 1))) ∧ FcI j μx (wI (wI μx 2 0 6 (nI (t + 1))) 9 j 5 (nI a)) ∧ PG N n c (t + 1) (wI (wI μx 2 0 6 (nI (t + 1))) 9 j 5 (nI a)) ν1 ∧ IO N n c (cnt + 1) j cnt z T0 (spA R) M (t + 1) (wI (wI μx 2 0 6 (nI (t + 1))) 9 j 5 (nI a)) ν1 := by
      intro M μx a hM hg' ⟨hL', m', hz', e2, e3, e4⟩ ha
      have ab := hM.2.2 _ a ha
      have mm : m' = m := nI_inj (by have := e2.2.1; omega) (by omega) (e2.1.symm.trans n39)
      subst mm
      have fc : FcI j μx (wI (wI μx 2 0 6 (nI (t + 1))) 9 j 5 (nI a)) := fci_trans (fci_p fpc_6) fci_w
      have gg : PG N n c (t + 1) (wI (wI μx 2 0 6 (nI (t + 1))) 9 j 5 (nI a)) ν1 := pg_c (pg_mix hg' s2) (fun κ a q z => wI_o (by omega)) rfl
      refine ⟨(p_nameC hg' hL' q fu).1 a ha (by have := hM.2.1; omega), fc, gg, lc_c hL' (fun κ a q z => fc.1 κ a q (by omega) (by omega)), m' + 1, by omega, ?_⟩
      have nm : NM N c M.1 M.2 (cnt + 1) (m' + 1) (noteM ν m' (tkP c N t) (tkE c N (tkP c N t) - tkP c N t) (284 + 6 * cnt + 2)) := note_nm e2 hm xl ha ab (Or.inr ⟨cnt, by omega, hc, rfl⟩)
      have tt := note_tt (l := tkE c N (tkP c N t) - tkP c N t) (g := 284 + 6 * cnt + 2) e2 hm (by omega) ha (by omega)
      have same : ∀ κ a, ¬ (κ = 26 ∧ a = 0) → ν1.1 κ a = (noteM ν m' (tkP c N t) (tkE c N (tkP c N t) - tkP c N t) (284 + 6 * cnt + 2)).1 κ a := fun κ a z => funext fun k => s3.1 κ a k (by omega)
      have tt' : TT M.1 ν1 = fun q => if q = 284 + 6 * cnt + 2 then nI a else TT M.1 ν q := by
        rw [← tt]
        exact tt_congr (same _ _ (by omega)) (same _ _ (by omega)) (same _ _ (by omega)) (s3.1 26 0 39 (by omega))
      refine ⟨nm_congr nm (fun e' he' hx => by rw [same 27 1 (by omega)]; exact hx) (fun a _ _ => same _ _ (by omega)) (s3.1 26 0 39 (by omega)), fun q hq => by rw [tt']; exact (if_neg (fun z => hq (by omega))).trans (e3 q hq), ?_⟩
      rw [tt']
      refine ⟨a, ab, if_pos rfl, wI_same, _, μx.1 9 j, e4, fun i hi => if_neg (by omega), fun i hi => ?_⟩
      rw [wI_o (by omega)]
      exact wI_o (by omega)
    obtain ⟨g1, g2, g3, g4⟩ := good M0 μ 0 hM0 h ⟨hL, m, hz, hE⟩ (h0 _)
    refine ⟨(), _, ν1, by show bnd _ _ = _; rw [g1, bnd_some], s1, g2, fm, fn, Or.inr ⟨t + 1, by omega, g3, g4, fun μ2 p2 i2 => ?_⟩⟩
    cases hv : M1.1 (tkP c N t) with
    | some a =>
      obtain ⟨k1, k2, k3, k4⟩ := good M1 μ2 a hM1 p2 i2 hv
      exact ⟨_, by show bnd _ _ = _; rw [k1, bnd_some], k2, Or.inl ⟨k3, k4⟩⟩
    | none =>
      obtain ⟨hL', m', hz', e2, -, -⟩ := i2
      have mm : m' = m := nI_inj (by have := e2.2.1; omega) (by omega) (e2.1.symm.trans n39)
      subst mm
      have k1 := (p_nameC p2 hL' q fu).2 hv
      have hn : n ≤ 1000 := Nat.le_trans p2.1.1 p2.1.2.1
      have dd : DD N n c (wI (wI (wI μ2 2 0 7 5) 2 0 8 (nI (tkP c N t))) 2 0 6 (nI n)) := by
        obtain ⟨c1, c2, c3, c4, c5, c6⟩ := p2.2.1
        have fr : ∀ κ a q, ¬ (κ = 2 ∧ a = 0 ∧ (q = 6 ∨ q = 7 ∨ q = 8)) → (wI (wI (wI μ2 2 0 7 5) 2 0 8 (nI (tkP c N t))) 2 0 6 (nI n)).1 κ a q = μ2.1 κ a q := fun κ a q z => by rw [wI_o (by omega), wI_o (by omega), wI_o (by omega)]
        refine ⟨hn, ⟨(fr _ _ _ (by omega)).trans c1, fun q hq => ?_, (fr _ _ _ (by omega)).trans c3, (fr _ _ _ (by omega)).trans c4, c5, (funext fun q => fr _ _ _ (by omega)).trans c6.1, fun w => absurd w (by rw [wI_o (by omega), wI_o (by omega), wI_same]; decide)⟩, wI_same, by rw [wI_o (by omega), wI_o (by omega), wI_same]; decide⟩
        obtain ⟨a1, a2, a3, a4⟩ := c2 q hq
        exact ⟨(fr _ _ _ (by omega)).trans a1, (fr _ _ _ (by omega)).trans a2, (fr _ _ _ (by omega)).trans a3, a4⟩
      have fp : FPc μ2 (wI (wI (wI μ2 2 0 7 5) 2 0 8 (nI (tkP c N t))) 2 0 6 (nI n)) := ⟨fun κ a q z => by rw [wI_o (by omega), wI_o (by omega), wI_o (by omega)], rfl⟩
      have pn : PN N n c M1.1 (wI (wI (wI μ2 2 0 7 5) 2 0 8 (nI (tkP c N t))) 2 0 6 (nI n)) (noteM ν m' (tkP c N t) (tkE c N (tkP c N t) - tkP c N t) (284 + 6 * cnt + 2)) := by
        refine ⟨dd, by rw [wI_o (by omega), wI_o (by omega), wI_same], m' + 1, m', tkP c N t, wI_same, by omega, by omega, ?_, xl, by rw [wI_o (by omega), wI_same], hv, fun k hk => ?_⟩
        · unfold noteM; rw [wI_o (by omega), wI_o (by omega), wI_o (by omega), wI_same]
        · obtain ⟨⟨y, a, y1, y2, y3, y4, y5⟩, -⟩ := e2.2.2 k hk
          exact ⟨y, a, y1, by unfold noteM; rw [wI_o (by omega), wI_o (by omega), wI_o (by omega), wI_o (by omega)]; exact y2, y4⟩
      exact ⟨_, by show bnd _ _ = _; rw [k1, bnd_some], fci_trans (fci_p fp) fci_w, Or.inr (pn_c (pn_fn pn (fn_p s3)) (fun κ a q z => wI_o (by omega)) rfl)⟩
  · obtain ⟨μ1, ν1, s1, s2, s3, s4, s5⟩ := p_nameNo (p := nI (284 + 6 * cnt + 2)) h q (fu + 1001) fu
    exact ⟨(), _, ν1, by show bnd _ _ = _; rw [s1, bnd_some], s2, fci_trans (fci_p s4) fci_w, fmi_p s5, fn_p s5, Or.inl ⟨pb_c s3 (fun κ a q z => wI_o (by omega)) rfl, rfl⟩⟩
theorem ckB_ckB {α : Type} {a k : Nat} {o : Option α} : ckB a k (ckB a k o) = ckB a k o := by
  unfold ckB
  split
  · rfl
  · rfl
theorem bnd_ite {α β : Type} {p : Prop} [Decidable p] {a b : Option (α × Mem)} {k : α → Mem → Option (β × Mem)} : bnd (if p then a else b) k = if p then bnd a k else bnd b k := by
  by_cases h : p
  · rw [if_pos h, if_pos h]
  · rw [if_neg h, if_neg h]
theorem pl_16 : ∀ a, a < 74 → ¬ syR.getD a 0 &&& 16 = 0 → (plS.idxOf a < 9 ∧ plS.getD (plS.idxOf a) 0 = a) ∧ ix 2 a = nI (plS.idxOf a) ∧ plS.idxOf a ≤ 5 := by decide +kernel
theorem pl_32 : ∀ a, a < 74 → ¬ syR.getD a 0 &&& 32 = 0 → (plS.idxOf a < 9 ∧ plS.getD (plS.idxOf a) 0 = a) ∧ ix 2 a = nI (plS.idxOf a) ∧ plS.idxOf a ≠ 5 ∧ plS.idxOf a ≠ 6 := by decide +kernel
theorem pl_64 : ∀ a, a < 74 → ¬ syR.getD a 0 &&& 64 = 0 → (plS.idxOf a < 9 ∧ plS.getD (plS.idxOf a) 0 = a) ∧ ix 2 a = nI (plS.idxOf a) ∧ plS.idxOf a ≠ 3 ∧ plS.idxOf a ≠ 6 ∧ plS.idxOf a ≠ 7 := by decide +kernel
theorem pl_256 : ∀ a, a < 74 → ¬ syR.getD a 0 &&& 256 = 0 → (plS.idxOf a < 9 ∧ plS.getD (plS.idxOf a) 0 = a) ∧ ix 2 a = nI (plS.idxOf a) ∧ plS.idxOf a ≤ 6 := by decide +kernel
theorem pl_512 : ∀ a, a < 74 → ¬ syR.getD a 0 &&& 512 = 0 → (plS.idxOf a < 9 ∧ plS.getD (plS.idxOf a) 0 = a) ∧ ix 2 a = nI (plS.idxOf a) ∧ (plS.idxOf a = 0 ∨ plS.idxOf a = 1 ∨ plS.idxOf a = 2 ∨ plS.idxOf a = 7) := by decide +kernel
theorem pl_1024 : ∀ a, a < 74 → ¬ syR.getD a 0 &&& 1024 = 0 → (plS.idxOf a < 9 ∧ plS.getD (plS.idxOf a) 0 = a) ∧ ix 2 a = nI (plS.idxOf a) ∧ (plS.idxOf a = 1 ∨ plS.idxOf a = 2 ∨ plS.idxOf a = 5) := by decide +kernel
theorem pl_2048 : ∀ a, a < 74 → ¬ syR.getD a 0 &&& 2048 = 0 → (plS.idxOf a < 9 ∧ plS.getD (plS.idxOf a) 0 = a) ∧ ix 2 a = nI (plS.idxOf a) ∧ (plS.idxOf a = 1 ∨ plS.idxOf a = 2 ∨ plS.idxOf a = 4) := by decide +kernel
theorem mk_16 : ∀ s, s < 74 → (¬ syR.getD s 0 &&& 16 = 0 ↔ ¬ ix 2 s = -1 ∧ ((63 : Int32) >>> (ix 2 s &&& 31)) &&& 1 = 1) := by decide +kernel
theorem mk_32 : ∀ s, s < 74 → (¬ syR.getD s 0 &&& 32 = 0 ↔ ¬ ix 2 s = -1 ∧ ((415 : Int32) >>> (ix 2 s &&& 31)) &&& 1 = 1) := by decide +kernel
theorem mk_64 : ∀ s, s < 74 → (¬ syR.getD s 0 &&& 64 = 0 ↔ ¬ ix 2 s = -1 ∧ ((311 : Int32) >>> (ix 2 s &&& 31)) &&& 1 = 1) := by decide +kernel
theorem mk_256 : ∀ s, s < 74 → (¬ syR.getD s 0 &&& 256 = 0 ↔ ¬ ix 2 s = -1 ∧ ((127 : Int32) >>> (ix 2 s &&& 31)) &&& 1 = 1) := by decide +kernel
theorem mk_512 : ∀ s, s < 74 → (¬ syR.getD s 0 &&& 512 = 0 ↔ ¬ ix 2 s = -1 ∧ ((135 : Int32) >>> (ix 2 s &&& 31)) &&& 1 = 1) := by decide +kernel
theorem mk_1024 : ∀ s, s < 74 → (¬ syR.getD s 0 &&& 1024 = 0 ↔ ¬ ix 2 s = -1 ∧ ((38 : Int32) >>> (ix 2 s &&& 31)) &&& 1 = 1) := by decide +kernel
theorem mk_2048 : ∀ s, s < 74 → (¬ syR.getD s 0 &&& 2048 = 0 ↔ ¬ ix 2 s = -1 ∧ ((22 : Int32) >>> (ix 2 s &&& 31)) &&& 1 = 1) := by decide +kernel
