/-! PARSING: the two readings of the class, side by side with the model's one -/
theorem tk_lt {N n t : Nat} {c : Nat → Int32} (hT : TP N n c) (ht : t < n) : tkP c N t < tkP c N (t + 1) := Nat.lt_of_lt_of_le (tk_gt (hT.2.2.1 t ht)).1 tk_next
theorem tk_mono {N n : Nat} {c : Nat → Int32} (hT : TP N n c) : ∀ d t, t + d ≤ n → tkP c N t + d ≤ tkP c N (t + d) := by
  intro d
  induction d with
  | zero => intro t _; exact Nat.le_refl _
  | succ d ih =>
    intro t h
    have a := ih t (by omega)
    have b := tk_lt hT (show t + d < n by omega)
    show tkP c N t + (d + 1) ≤ tkP c N (t + d + 1)
    omega
theorem pg_t {N n t t' : Nat} {c : Nat → Int32} {μ μ' ν : Mem} (h : PG N n c t μ ν) (h' : PG N n c t' μ' ν) : t = t' := by
  have hT := h.1
  have hN := hT.2.1
  obtain ⟨-, a1, a2⟩ := h.2.2.2.2.2.1
  obtain ⟨-, b1, b2⟩ := h'.2.2.2.2.2.1
  have key : ∀ s s', s < s' → s' ≤ n → tkP c N s < tkP c N s' := fun s s' hs hn => by
    have := tk_mono hT (s' - s) s (by omega)
    rw [show s + (s' - s) = s' by omega] at this
    omega
  have p1 : ν.1 26 0 24 = nI (tkP c N t) := by
    by_cases g : t < n
    · rw [if_pos g] at a2; exact a2.1
    · rw [if_neg g] at a2; rw [a2.1, show t = n by omega, hT.2.2.2]
  have p2 : ν.1 26 0 24 = nI (tkP c N t') := by
    by_cases g : t' < n
    · rw [if_pos g] at b2; exact b2.1
    · rw [if_neg g] at b2; rw [b2.1, show t' = n by omega, hT.2.2.2]
  have le : ∀ s, s ≤ n → tkP c N s ≤ 1000 := fun s hs => by
    by_cases g : s < n
    · have := hT.2.2.1 s g; omega
    · rw [show s = n by omega, hT.2.2.2]; exact hN
  have la := le t a1
  have lb := le t' b1
  have e := nI_inj (a := tkP c N t) (b := tkP c N t') (by omega) (by omega) (p1.symm.trans p2)
  by_cases g : t < t'
  · have := key t t' g b1; omega
  · by_cases g' : t' < t
    · have := key t' t g' a1; omega
    · omega
/-- names that stand stay -/
def FN (ν ν' : Mem) : Prop := ∀ m, ν.1 26 0 39 = nI m → m ≤ 400 → ∃ m', m ≤ m' ∧ m' ≤ 400 ∧ ν'.1 26 0 39 = nI m' ∧ ∀ j, j < m → ∀ a, 10 ≤ a → a ≤ 12 → ν'.1 28 a j = ν.1 28 a j
theorem fn_rfl {ν : Mem} : FN ν ν := fun m h1 h2 => ⟨m, Nat.le_refl _, h2, h1, fun _ _ _ _ _ => rfl⟩
theorem fn_trans {a b d : Mem} (h : FN a b) (g : FN b d) : FN a d := fun m h1 h2 => by
  obtain ⟨m1, a1, a2, a3, a4⟩ := h m h1 h2
  obtain ⟨m2, b1, b2, b3, b4⟩ := g m1 a3 a2
  exact ⟨m2, by omega, b2, b3, fun j hj q h1 h2 => (b4 j (by omega) q h1 h2).trans (a4 j hj q h1 h2)⟩
theorem fn_of {ν ν' : Mem} (e : ν'.1 26 0 39 = ν.1 26 0 39) (e' : ∀ j a, 10 ≤ a → a ≤ 12 → ν'.1 28 a j = ν.1 28 a j) : FN ν ν' := fun m h1 h2 => ⟨m, Nat.le_refl _, h2, e.trans h1, fun j _ a h3 h4 => e' j a h3 h4⟩
theorem fn_note {ν : Mem} {m x l g : Nat} (hm : m < 400) (h : ν.1 26 0 39 = nI m) : FN ν (noteM ν m x l g) := fun m' h1 h2 => by
  have e : m' = m := nI_inj (by omega) (by omega) (h1.symm.trans h)
  subst e
  exact ⟨m' + 1, by omega, by omega, wI_same, fun j hj a ha hb => by unfold noteM; rw [wI_o (by omega), wI_o (by omega), wI_o (by omega), wI_o (by omega)]⟩
/-- the class's second reading has met a name without a label: the k-th of the model's -/
def PN (N n : Nat) (c : Nat → Int32) (V : Nat → Option Nat) (μ ν : Mem) : Prop :=
  DD N n c μ ∧ μ.1 2 0 7 = 5 ∧ ∃ m k x, ν.1 26 0 39 = nI m ∧ m ≤ 400 ∧ k < m ∧ ν.1 28 10 k = nI x ∧ x < N ∧ μ.1 2 0 8 = nI x ∧ V x = none ∧ ∀ j, j < k → ∃ y a, y < N ∧ ν.1 28 10 j = nI y ∧ V y = some a
theorem pn_fn {N n : Nat} {c : Nat → Int32} {V : Nat → Option Nat} {μ ν ν' : Mem} (h : PN N n c V μ ν) (f : FN ν ν') : PN N n c V μ ν' := by
  obtain ⟨h1, h2, m, k, x, h3, h4, h5, h6, h7, h8, h9, h10⟩ := h
  obtain ⟨m', f1, f2, f3, f4⟩ := f m h3 h4
  refine ⟨h1, h2, m', k, x, f3, f2, by omega, by rw [f4 k h5 10 (by omega) (by omega)]; exact h6, h7, h8, h9, fun j hj => ?_⟩
  obtain ⟨y, a, h11, h12, h13⟩ := h10 j hj
  exact ⟨y, a, h11, by rw [f4 j (by omega) 10 (by omega) (by omega)]; exact h12, h13⟩
theorem pn_c {N n : Nat} {c : Nat → Int32} {V : Nat → Option Nat} {μ μ' ν : Mem} (h : PN N n c V μ ν) (e : ∀ κ a q, κ = 1 ∨ κ = 2 ∨ κ = 4 → μ'.1 κ a q = μ.1 κ a q) (er : μ'.2.1 3 0 = μ.2.1 3 0) : PN N n c V μ' ν := by
  obtain ⟨h1, h2, m, k, x, h3, h4, h5, h6, h7, h8, h9⟩ := h
  exact ⟨dd_c h1 e er, (e _ _ _ (by omega)).trans h2, m, k, x, h3, h4, h5, h6, h7, (e _ _ _ (by omega)).trans h8, h9⟩
theorem lc_c {N n : Nat} {c : Nat → Int32} {V : Nat → Option Nat} {μ μ' : Mem} (h : LC N n c V μ) (e : ∀ κ a q, κ = 10 ∨ κ = 11 → μ'.1 κ a q = μ.1 κ a q) : LC N n c V μ' := by
  rcases h with ⟨f, hV⟩ | ⟨f, L, lt, la, ⟨l1, l2, l3⟩, hV⟩
  · exact Or.inl ⟨(e _ _ _ (by omega)).trans f, hV⟩
  · refine Or.inr ⟨(e _ _ _ (by omega)).trans f, L, lt, la, ⟨(e _ _ _ (by omega)).trans l1, l2, fun i hi => ?_⟩, hV⟩
    obtain ⟨a1, a2, a3, a4⟩ := l3 i hi
    exact ⟨(e _ _ _ (by omega)).trans a1, a2, (e _ _ _ (by omega)).trans a3, a4⟩
/-- a mode: what names stand for, and a bound of it -/
abbrev Md := (Nat → Option Nat) × Nat
def MV (M : Md) : Prop := 1 ≤ M.2 ∧ M.2 ≤ 33 ∧ ∀ x a, M.1 x = some a → a < M.2
/-- the class's cells that reading the token tables needs -/
def KT (μ μ' : Mem) : Prop := (∀ κ a q, κ = 1 ∨ κ = 2 ∨ κ = 4 → μ'.1 κ a q = μ.1 κ a q) ∧ μ'.2.1 3 0 = μ.2.1 3 0
/-- the two readings' step: M0 the first, M1 the second -/
def J2 {β : Type} (N n : Nat) (c : Nat → Int32) (M0 M1 : Md) (F : Mem → Option (Unit × Mem)) (FM : Option (β × Mem)) (t : Nat) (μ ν : Mem) (I : Md → Nat → Mem → Mem → Prop) (I' : Md → Nat → β → Mem → Mem → Prop) (Fc Fm : Mem → Mem → Prop) (bv : β) : Prop :=
  ∃ b μ' ν', F μ = some ((), μ') ∧ FM = some (b, ν') ∧ Fc μ μ' ∧ Fm ν ν' ∧ FN ν ν' ∧
    ((PB N n c μ' ν' ∧ b = bv) ∨ ∃ t', t ≤ t' ∧ PG N n c t' μ' ν' ∧ I' M0 t' b μ' ν' ∧
      ∀ μ2, PG N n c t μ2 ν → I M1 t μ2 ν → ∃ μ2', F μ2 = some ((), μ2') ∧ Fc μ2 μ2' ∧ ((PG N n c t' μ2' ν' ∧ I' M1 t' b μ2' ν') ∨ PN N n c M1.1 μ2' ν'))
/-- a step that is the same in both -/
def P2 {β : Type} (N n : Nat) (c : Nat → Int32) (F : Mem → Option (Unit × Mem)) (FM : Option (β × Mem)) (t : Nat) (μ ν : Mem) (I' : Nat → β → Mem → Mem → Prop) (Fc Fm : Mem → Mem → Prop) (bv : β) : Prop :=
  ∃ b μ' ν', F μ = some ((), μ') ∧ FM = some (b, ν') ∧ Fc μ μ' ∧ Fm ν ν' ∧ FN ν ν' ∧
    ((PB N n c μ' ν' ∧ b = bv) ∨ ∃ t', t ≤ t' ∧ PG N n c t' μ' ν' ∧ I' t' b μ' ν')
theorem j2_of {β : Type} {N n : Nat} {c : Nat → Int32} {M0 M1 : Md} {F : Mem → Option (Unit × Mem)} {FM : Option (β × Mem)} {t : Nat} {μ ν : Mem} {I : Md → Nat → Mem → Mem → Prop} {I' : Md → Nat → β → Mem → Mem → Prop} {Fc Fm : Mem → Mem → Prop} {bv : β}
    (h : ∀ M μ, M = M0 ∨ M = M1 → PG N n c t μ ν → I M t μ ν → P2 N n c F FM t μ ν (I' M) Fc Fm bv) (hg : PG N n c t μ ν) (hi : I M0 t μ ν) : J2 N n c M0 M1 F FM t μ ν I I' Fc Fm bv := by
  obtain ⟨b, μ', ν', s1, s2, s3, s4, s5, s6⟩ := h M0 μ (Or.inl rfl) hg hi
  refine ⟨b, μ', ν', s1, s2, s3, s4, s5, ?_⟩
  rcases s6 with s6 | ⟨t', s6, s7, s8⟩
  · exact Or.inl s6
  · refine Or.inr ⟨t', s6, s7, s8, fun μ2 g2 i2 => ?_⟩
    obtain ⟨b2, μ2', ν2', r1, r2, r3, r4, r5, r6⟩ := h M1 μ2 (Or.inr rfl) g2 i2
    obtain ⟨rfl, rfl⟩ := Prod.mk.inj (Option.some.inj (s2.symm.trans r2))
    refine ⟨μ2', r1, r3, ?_⟩
    rcases r6 with ⟨r6, -⟩ | ⟨t2, r6, r7, r8⟩
    · exact absurd s7.2.2.2.2.1 (b_err r6)
    · have := pg_t s7 r7
      subst this
      exact Or.inl ⟨r7, r8⟩
/-- one step after the other -/
theorem j2_seq {β γ : Type} {N n : Nat} {c : Nat → Int32} {M0 M1 : Md} {F F2 : Mem → Option (Unit × Mem)} {FM : Option (β × Mem)} {FM2 : β → Mem → Option (γ × Mem)} {t : Nat} {μ ν : Mem} {I : Md → Nat → Mem → Mem → Prop} {I1 : Md → Nat → β → Mem → Mem → Prop} {I2 : Md → Nat → γ → Mem → Mem → Prop} {Fc Fm : Mem → Mem → Prop} {bv : β} {cv : γ}
    (tc : ∀ a b d, Fc a b → Fc b d → Fc a d) (tm : ∀ a b d, Fm a b → Fm b d → Fm a d)
    (h1 : J2 N n c M0 M1 F FM t μ ν I I1 Fc Fm bv)
    (h2 : ∀ t' b μ' ν', Fc μ μ' → Fm ν ν' → t ≤ t' → PG N n c t' μ' ν' → I1 M0 t' b μ' ν' → J2 N n c M0 M1 F2 (FM2 b ν') t' μ' ν' (fun M t μ ν => I1 M t b μ ν) I2 Fc Fm cv)
    (hd : ∀ μ0 μ', Fc μ0 μ' → (μ0 = μ ∨ (PG N n c t μ0 ν ∧ I M1 t μ0 ν)) → DD N n c μ' → ∃ μ'', F2 μ' = some ((), μ'') ∧ Fc μ' μ'' ∧ KT μ' μ'')
    (hb : ∀ μ' ν', Fm ν ν' → PB N n c μ' ν' → ∃ ν'', FM2 bv ν' = some (cv, ν'') ∧ Fm ν' ν'' ∧ FN ν' ν'' ∧ ∀ q, 22 ≤ q → q ≤ 27 → ν''.1 26 0 q = ν'.1 26 0 q) :
    J2 N n c M0 M1 (fun μ => bnd (F μ) fun _ μ1 => F2 μ1) (bnd FM fun b ν1 => FM2 b ν1) t μ ν I I2 Fc Fm cv := by
  obtain ⟨b, μ', ν', s1, s2, s3, s4, s5, s6⟩ := h1
  rcases s6 with ⟨s6, rfl⟩ | ⟨t', s6, s7, s8, s9⟩
  · obtain ⟨μ'', d1, d2, d3⟩ := hd μ μ' s3 (Or.inl rfl) (pb_dd s6)
    obtain ⟨ν'', b1, b2, b3, b4⟩ := hb μ' ν' s4 s6
    exact ⟨cv, μ'', ν'', by show bnd (F μ) _ = _; rw [s1, bnd_some, d1], by rw [s2, bnd_some, b1], tc _ _ _ s3 d2, tm _ _ _ s4 b2, fn_trans s5 b3, Or.inl ⟨pb_m (pb_c s6 d3.1 d3.2) b4, rfl⟩⟩
  · obtain ⟨b2, μ'', ν'', r1, r2, r3, r4, r5, r6⟩ := h2 t' b μ' ν' s3 s4 s6 s7 s8
    refine ⟨b2, μ'', ν'', by show bnd (F μ) _ = _; rw [s1, bnd_some, r1], by rw [s2, bnd_some, r2], tc _ _ _ s3 r3, tm _ _ _ s4 r4, fn_trans s5 r5, ?_⟩
    rcases r6 with r6 | ⟨t'', r6, r7, r8, r9⟩
    · exact Or.inl r6
    · refine Or.inr ⟨t'', by omega, r7, r8, fun μ2 g2 i2 => ?_⟩
      obtain ⟨μ2', q1, q2, q3⟩ := s9 μ2 g2 i2
      rcases q3 with ⟨q3, q4⟩ | q3
      · obtain ⟨μ2'', p1, p2, p3⟩ := r9 μ2' q3 q4
        exact ⟨μ2'', by show bnd (F μ2) _ = _; rw [q1, bnd_some, p1], tc _ _ _ q2 p2, p3⟩
      · obtain ⟨μ2'', d1, d2, d3⟩ := hd μ2 μ2' q2 (Or.inr ⟨g2, i2⟩) q3.1
        exact ⟨μ2'', by show bnd (F μ2) _ = _; rw [q1, bnd_some, d1], tc _ _ _ q2 d2, Or.inr (pn_fn (pn_c q3 d3.1 d3.2) r5)⟩
