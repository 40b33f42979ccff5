/-! PARSING: the program while it is read (class: row s; model: the draft) -/
def clV (k : Nat) : Int32 := if k = 3 then -1 else if k = 4 then 256 else if k = 17 ∨ k = 18 then 32 else if k = 19 then 4 else 0
def PE (s B e : Nat) (μ : Mem) (T : Nat → Int32) : Prop :=
  ((∀ k, k < 21 → T (476 + 21 * e + k) = 0) ∧ ∀ k, k < 20 → μ.1 8 (4 * s + e) k = clV k) ∨ QS B (μ.1 8 (4 * s + e)) (fun k => T (476 + 21 * e + k))
def PD (s B cnt : Nat) (μ : Mem) (T : Nat → Int32) : Prop :=
  cnt ≤ 32 ∧ T 0 = nI cnt ∧ μ.1 5 s 0 = nI cnt ∧ (∀ a, a < cnt → relI μ (33 * s + a) B (fun k => T (284 + 6 * a + k))) ∧ (∀ a, cnt ≤ a → a < 32 → ∀ k, k < 6 → T (284 + 6 * a + k) = 0) ∧
  (∀ e, e < 4 → PE s B e μ T) ∧ (∀ q, q < 16 → T (4 + 6 * q + 2) = b2 (bt (μ.1 5 s 1) q)) ∧
  (∀ a, a < 284 → a ≠ 0 → (∀ q, q < 16 → a ≠ 4 + 6 * q + 2) → T a = if a = 2 then -1 else 0) ∧ ∀ a, 560 ≤ a → a < 700 → T a = 0
def EX (M : Md) (T : Nat → Int32) : Prop := ∀ e, e < 4 → T (476 + 21 * e) = 1 → ∃ x a, M.1 x = some a
def LBL (N n : Nat) (c : Nat → Int32) (cnt : Nat) (μ ν : Mem) : Prop := μ.1 10 0 2 = 0 → ∃ L lt la lb ll, LT n L lt la μ ∧ MT N cnt c lb ll ν ∧ LM N n cnt L c lt la lb ll
def SY (μ : Mem) : Prop := ∀ j, j < 66 → μ.2.1 9 j 0 < 74 ∧ μ.2.1 9 j 2 < 74 ∧ μ.2.1 9 j 3 < 74 ∧ μ.2.1 9 j 4 < 74
def CN (s : Nat) (μ : Mem) : Prop := ∃ k : Nat, k ≤ 32 ∧ μ.1 5 s 0 = nI k
/-- the invariant of the clauses -/
def IC (N n : Nat) (c : Nat → Int32) (s : Nat) (M : Md) (t : Nat) (μ ν : Mem) : Prop :=
  LC N n c M.1 μ ∧ μ.2.1 10 0 1 = s ∧ SY μ ∧ ∃ m cnt, 3 * m ≤ tkP c N t ∧ NM N c M.1 M.2 cnt m ν ∧ PD s M.2 cnt μ (TT M.1 ν) ∧ EX M (TT M.1 ν) ∧ LBL N n c cnt μ ν
def FcP (s : Nat) (μ μ' : Mem) : Prop :=
  (∀ κ a q, ¬ (κ = 2 ∧ a = 0 ∧ (q = 6 ∨ q = 7 ∨ q = 8)) → ¬ (κ = 5 ∧ a = s) → ¬ (κ = 8 ∧ 4 * s ≤ a ∧ a < 4 * s + 4) → ¬ (κ = 9 ∧ 33 * s ≤ a ∧ a < 33 * s + 33) → ¬ (κ = 10 ∧ a = 0 ∧ q = 3) → ¬ κ = 11 → μ'.1 κ a q = μ.1 κ a q) ∧
  (∀ κ a q, ¬ (κ = 9 ∧ 33 * s ≤ a ∧ a < 33 * s + 33) → μ'.2.1 κ a q = μ.2.1 κ a q) ∧ μ'.2.2 = μ.2.2 ∧ (SY μ → SY μ') ∧ (CN s μ → CN s μ')
def FmP (ν ν' : Mem) : Prop :=
  (∀ κ a q, ¬ (κ = 26 ∧ a = 0 ∧ (23 ≤ q ∧ q ≤ 27 ∨ q = 39)) → ¬ (κ = 27 ∧ a = 1) → ¬ (κ = 28 ∧ 8 ≤ a ∧ a ≤ 12) → ν'.1 κ a q = ν.1 κ a q) ∧ ν'.2 = ν.2
theorem fcp_rfl {s : Nat} {μ : Mem} : FcP s μ μ := ⟨fun _ _ _ _ _ _ _ _ _ => rfl, fun _ _ _ _ => rfl, rfl, id, id⟩
theorem fcp_trans {s : Nat} {a b d : Mem} (h : FcP s a b) (g : FcP s b d) : FcP s a d :=
  ⟨fun κ n k z1 z2 z3 z4 z5 z6 => (g.1 κ n k z1 z2 z3 z4 z5 z6).trans (h.1 κ n k z1 z2 z3 z4 z5 z6), fun κ n k z => (g.2.1 κ n k z).trans (h.2.1 κ n k z), g.2.2.1.trans h.2.2.1, fun z => g.2.2.2.1 (h.2.2.2.1 z), fun z => g.2.2.2.2 (h.2.2.2.2 z)⟩
theorem fmp_rfl {μ : Mem} : FmP μ μ := ⟨fun _ _ _ _ _ _ => rfl, rfl⟩
theorem fmp_trans {a b d : Mem} (h : FmP a b) (g : FmP b d) : FmP a d := ⟨fun κ n k z w v => (g.1 κ n k z w v).trans (h.1 κ n k z w v), g.2.trans h.2⟩
theorem sy_same {μ μ' : Mem} (e : μ'.2.1 = μ.2.1) (h : SY μ) : SY μ' := fun j hj => by rw [e]; exact h j hj
theorem fcp_e {s e : Nat} {μ μ' : Mem} (he : e < 4) (h : FcE (4 * s + e) μ μ') : FcP s μ μ' :=
  ⟨fun κ a q z1 z2 z3 z4 z5 z6 => h.1 κ a q z1 (by omega), fun κ a q _ => by rw [h.2], by rw [h.2], sy_same (by rw [h.2]), fun ⟨k, k1, k2⟩ => ⟨k, k1, (h.1 5 s 0 (by omega) (by omega)).trans k2⟩⟩
theorem fmp_e {e : Nat} {ν ν' : Mem} (h : FmE e ν ν') : FmP ν ν' := ⟨fun κ a q z1 z2 z3 => h.1 κ a q z1 (by omega) (by omega), h.2⟩
theorem fcp_p {s : Nat} {μ μ' : Mem} (h : FPc μ μ') : FcP s μ μ' := fcp_e (e := 0) (by decide) (fce_p h)
theorem fmp_p {ν ν' : Mem} (h : FPm ν ν') : FmP ν ν' := fmp_e (e := 0) (fme_p h)
theorem j2_conv {β : Type} {N n : Nat} {c : Nat → Int32} {M0 M1 : Md} {F : Mem → Option (Unit × Mem)} {FM : Option (β × Mem)} {t : Nat} {μ ν : Mem} {I I0 : Md → Nat → Mem → Mem → Prop} {I' I0' : Md → Nat → β → Mem → Mem → Prop} {Fc Fm Fc' Fm' : Mem → Mem → Prop} {bv : β}
    (hfc : ∀ a b, Fc a b → Fc' a b) (hfm : ∀ a b, Fm a b → Fm' a b) (hi : ∀ M μx, (M = M0 ∨ M = M1) → PG N n c t μx ν → I0 M t μx ν → I M t μx ν)
    (hp : ∀ M μx μ' ν' t' b, (M = M0 ∨ M = M1) → t ≤ t' → I0 M t μx ν → Fc μx μ' → Fm ν ν' → FN ν ν' → I' M t' b μ' ν' → I0' M t' b μ' ν') (hI : I0 M0 t μ ν)
    (h : J2 N n c M0 M1 F FM t μ ν I I' Fc Fm bv) : J2 N n c M0 M1 F FM t μ ν I0 I0' Fc' Fm' bv := by
  obtain ⟨b, μ', ν', s1, s2, s3, s4, s5, s6⟩ := h
  refine ⟨b, μ', ν', s1, s2, hfc _ _ s3, hfm _ _ s4, s5, ?_⟩
  rcases s6 with s6 | ⟨t', s6, s7, s8, s9⟩
  · exact Or.inl s6
  · refine Or.inr ⟨t', s6, s7, hp _ _ _ _ _ _ (Or.inl rfl) s6 hI s3 s4 s5 s8, fun μ2 g2 i2 => ?_⟩
    obtain ⟨μ2', q1, q2, q3⟩ := s9 μ2 g2 (hi _ _ (Or.inr rfl) g2 i2)
    refine ⟨μ2', q1, hfc _ _ q2, ?_⟩
    rcases q3 with ⟨q3, q4⟩ | q3
    · exact Or.inl ⟨q3, hp _ _ _ _ _ _ (Or.inr rfl) s6 i2 q2 s4 s5 q4⟩
    · exact Or.inr q3
/-- a step of both that ends in a known way -/
theorem j2_go {β : Type} {N n : Nat} {c : Nat → Int32} {M0 M1 : Md} {F F' : Mem → Option (Unit × Mem)} {FM FM' : Option (β × Mem)} {t t1 : Nat} {μ ν ν1 : Mem} {I I1 : Md → Nat → Mem → Mem → Prop} {I' : Md → Nat → β → Mem → Mem → Prop} {Fc Fm : Mem → Mem → Prop} {bv : β} (G : Mem → Mem)
    (tc : ∀ a b d, Fc a b → Fc b d → Fc a d) (tm : ∀ a b d, Fm a b → Fm b d → Fm a d) (ht : t ≤ t1)
    (hF : ∀ M μx, (M = M0 ∨ M = M1) → PG N n c t μx ν → I M t μx ν → F μx = F' (G μx) ∧ PG N n c t1 (G μx) ν1 ∧ I1 M t1 (G μx) ν1 ∧ Fc μx (G μx))
    (hg : PG N n c t μ ν) (hi : I M0 t μ ν) (hM : FM = FM') (hfm : Fm ν ν1) (hfn : FN ν ν1) (h : PG N n c t1 (G μ) ν1 → I1 M0 t1 (G μ) ν1 → J2 N n c M0 M1 F' FM' t1 (G μ) ν1 I1 I' Fc Fm bv) : J2 N n c M0 M1 F FM t μ ν I I' Fc Fm bv := by
  obtain ⟨f1, f2, f3, f4⟩ := hF M0 μ (Or.inl rfl) hg hi
  obtain ⟨b, μ', ν', s1, s2, s3, s4, s5, s6⟩ := h f2 f3
  refine ⟨b, μ', ν', f1.trans s1, hM.trans s2, tc _ _ _ f4 s3, tm _ _ _ hfm s4, fn_trans hfn s5, ?_⟩
  rcases s6 with s6 | ⟨t', s6, s7, s8, s9⟩
  · exact Or.inl s6
  · refine Or.inr ⟨t', by omega, s7, s8, fun μ2 g2 i2 => ?_⟩
    obtain ⟨h1, h2, h3, h4⟩ := hF M1 μ2 (Or.inr rfl) g2 i2
    obtain ⟨μ2', q1, q2, q3⟩ := s9 _ h2 h3
    exact ⟨μ2', h1.trans q1, tc _ _ _ h4 q2, q3⟩
/-! numbers, once more -/
theorem num_tok {N n t : Nat} {c : Nat → Int32} {μ ν : Mem} (h : PG N n c t μ ν) (q : syA N n c t = 3) (fu : Nat) : t < n ∧ ν.1 26 0 25 = 2 ∧ ∃ k, k ≤ 1000000 ∧ fX13_value (fu + 1001) 0 ν = some (nI k, ν) ∧ ∀ μx, CT N n c μx → μx.1 4 2 t = nI (min k 100000) := by
  have hw := h.2.2.2.2.2.1
  have g : t < n := Classical.byContradiction fun z => by rw [sy_end z] at q; exact absurd q (by decide)
  have l := h.1.2.2.1 t g
  have w3 := hw.2.2
  rw [if_pos g] at w3
  have hd : tkD (c (tkP c N t)) = true := by unfold syA at q; rw [if_pos g] at q; exact (tkY_3 l).1 q
  have k2 : ν.1 26 0 25 = 2 := by rw [w3.2.2]; exact tkK_2.2 hd
  obtain ⟨k, hk, em, ea⟩ := va_tok h.2.2.2.2.2.2 l hd
  obtain ⟨v, ev, evv⟩ := tw_value h.1 hw fu
  have evk : v = nI k := (evv g k2).trans em
  exact ⟨g, k2, k, hk, by rw [ev, evk], fun μx hC => (hC.2.1 t g).2.2.1.trans ea⟩
theorem num_no {N n t : Nat} {c : Nat → Int32} {μ ν : Mem} (h : PG N n c t μ ν) (q : ¬ syA N n c t = 3) : ¬ ν.1 26 0 25 = 2 := fun z => q (by
  have w3 := h.2.2.2.2.2.1.2.2
  by_cases g : t < n
  · rw [if_pos g] at w3
    rw [w3.2.2] at z
    unfold syA; rw [if_pos g]; exact (tkY_3 (h.1.2.2.1 t g)).2 (tkK_2.1 z)
  · rw [if_neg g] at w3
    rw [w3.2.2] at z; exact absurd z (by decide))
theorem c_num {N n t lo hi k : Nat} {c : Nat → Int32} {μ : Mem} (hn : n ≤ 1000) (h : CT N n c μ) (ht : t < n) (h6 : μ.1 2 0 6 = nI t) (q : syA N n c t = 3) (e4 : μ.1 4 2 t = nI k) (h1 : lo ≤ k) (h2 : k ≤ hi) (h3 : hi < 2 ^ 31) : fX11_takeNumber 0 (nI lo) (nI hi) μ = some (nI k, wI μ 2 0 6 (nI (t + 1))) := by
  unfold fX11_takeNumber
  simp only [jn_eq, nm_eq]
  rw [c_at hn h (by omega) h6, bnd_some, if_pos q, if_pos (show ¬ (1 : Int32) = 0 by decide), h6, ckI_nI (show t < 1001 by omega) (by decide), nI_clamp (n := t) (by omega), e4, if_neg (Int32.not_lt.2 ((nI_leI (by omega) (by omega)).2 h1)), if_pos ((nI_leI (by omega) (by omega)).2 h2), c_min hn h ht]
theorem c_numBad {N n t lo hi k : Nat} {c : Nat → Int32} {μ μ' : Mem} (hn : n ≤ 1000) (h : CT N n c μ) (ht : t < n) (h6 : μ.1 2 0 6 = nI t) (q : syA N n c t = 3) (e4 : μ.1 4 2 t = nI k) (h2 : hi < k) (h1 : lo ≤ k) (h3 : k < 2 ^ 31) (f : fX11_fail 0 2 μ = some ((), μ')) : fX11_takeNumber 0 (nI lo) (nI hi) μ = some (nI lo, μ') := by
  unfold fX11_takeNumber
  simp only [jn_eq, nm_eq]
  rw [c_at hn h (by omega) h6, bnd_some, if_pos q, if_pos (show ¬ (1 : Int32) = 0 by decide), h6, ckI_nI (show t < 1001 by omega) (by decide), nI_clamp (n := t) (by omega), e4, if_neg (Int32.not_lt.2 ((nI_leI (by omega) (by omega)).2 h1)), if_neg (show ¬ nI k ≤ nI hi from fun z => absurd ((nI_leI (by omega) (by omega)).1 z) (by omega)), f, bnd_some]
theorem c_numNo {N n t : Nat} {c : Nat → Int32} {μ μ' : Mem} {lo hi : Int32} (hn : n ≤ 1000) (h : CT N n c μ) (ht : t ≤ n) (h6 : μ.1 2 0 6 = nI t) (q : ¬ syA N n c t = 3) (f : fX11_fail 0 1 μ = some ((), μ')) : fX11_takeNumber 0 lo hi μ = some (lo, μ') := by
  unfold fX11_takeNumber
  rw [c_at hn h ht h6, bnd_some, if_neg q, if_neg (show ¬ ¬ (0 : Int32) = 0 from fun z => z rfl), f, bnd_some]
theorem c_below {N n t k : Nat} {c : Nat → Int32} {μ : Mem} (hn : n ≤ 1000) (h : CT N n c μ) (ht : t ≤ n) (h6 : μ.1 2 0 6 = nI t) (e4 : syA N n c t = 3 → μ.1 4 2 t = nI k) (hk : k < 2 ^ 31) : fX11_atNumberBelow 0 4 μ = some (if syA N n c t = 3 ∧ k < 4 then 1 else 0, μ) := by
  unfold fX11_atNumberBelow
  simp only [jn_eq, nm_eq]
  rw [c_at hn h ht h6, bnd_some]
  by_cases q : syA N n c t = 3
  · rw [if_pos q, if_neg (show ¬ (1 : Int32) = 0 by decide), h6, ckI_nI (show t < 1001 by omega) (by decide), nI_clamp (n := t) (by omega), e4 q]
    by_cases g : k < 4
    · rw [if_neg (show ¬ (4 : Int32) ≤ nI k from fun z => absurd ((nI_leI (a := 4) (by decide) hk).1 z) (by omega)), if_pos ⟨q, g⟩, ckZ_ok (Or.inr rfl)]
    · rw [if_pos (show (4 : Int32) ≤ nI k from (nI_leI (a := 4) (by decide) hk).2 (by omega)), if_neg (fun z => g z.2), ckZ_ok (Or.inl rfl)]
  · rw [if_neg q, if_pos (show (0 : Int32) = 0 from rfl), if_neg (fun z => q z.1), ckZ_ok (Or.inl rfl)]
