/-! TOKENS: the model stands at the class's t-th token; words and symbols -/
def TP (N n : Nat) (c : Nat → Int32) : Prop := n ≤ N ∧ N ≤ 1000 ∧ (∀ q, q < n → tkP c N q < N) ∧ tkP c N n = N
/-- the model stands at token t -/
def TW (N n : Nat) (c : Nat → Int32) (t : Nat) (ν : Mem) : Prop :=
  ν.1 26 0 22 = nI N ∧ t ≤ n ∧ (if t < n then ν.1 26 0 24 = nI (tkP c N t) ∧ ν.1 26 0 23 = nI (tkE c N (tkP c N t)) ∧ ν.1 26 0 25 = nI (tkK c (tkP c N t)) else ν.1 26 0 24 = nI N ∧ ν.1 26 0 23 = nI N ∧ ν.1 26 0 25 = 0)
/-- only the model's place changed -/
def FW (ν ν' : Mem) : Prop := (∀ κ a k, ¬ (κ = 26 ∧ a = 0 ∧ (k = 23 ∨ k = 24 ∨ k = 25)) → ν'.1 κ a k = ν.1 κ a k) ∧ ν'.2 = ν.2
theorem tz_tp {N n : Nat} {μ μ' : Mem} (hN : N ≤ 1000) (h : TZ N n μ μ') : TP N n (μ.1 1 0) := ⟨h.2.1, hN, fun q hq => (h.1.2.1 q hq).1, h.2.2.1⟩
theorem tw_scan {N n t x : Nat} {c : Nat → Int32} {ν : Mem} (hT : TP N n c) (hB : BY N (ν.1 28 7) c) (hx : x ≤ N) (h22 : ν.1 26 0 22 = nI N) (h23 : ν.1 26 0 23 = nI x) (e : tkP c N t = tkS c N x) (ht : t ≤ n) (fu : Nat) :
    ∃ ν', fX13_scan (fu + 1001) 0 ν = some ((), ν') ∧ TW N n c t ν' ∧ FW ν ν' := by
  have fw : ∀ s e k, FW ν (scM ν s e k) := fun s e k => ⟨fun κ a z hz => by unfold scM; rw [wI_o (by omega), wI_o (by omega), wI_o (by omega)], rfl⟩
  have c22 : ∀ s e k, (scM ν s e k).1 26 0 22 = nI N := fun s e k => ((fw s e k).1 26 0 22 (by omega)).trans h22
  have c24 : ∀ s e k, (scM ν s e k).1 26 0 24 = nI s := fun s e k => (wI_o (by omega)).trans ((wI_o (by omega)).trans wI_same)
  have c23 : ∀ s e k, (scM ν s e k).1 26 0 23 = nI e := fun s e k => (wI_o (by omega)).trans wI_same
  have c25 : ∀ s e k, (scM ν s e k).1 26 0 25 = nI k := fun s e k => wI_same
  refine ⟨_, m_scan hT.2.1 hx h22 h23 fu, ?_, ?_⟩
  · rw [by_S hB hx, ← e]
    by_cases g : t < n
    · have l := hT.2.2.1 t g
      rw [if_pos l, by_E hB l, by_K hB l]
      exact ⟨c22 _ _ _, ht, by rw [if_pos g]; exact ⟨c24 _ _ _, c23 _ _ _, c25 _ _ _⟩⟩
    · have en : t = n := by omega
      subst en
      rw [hT.2.2.2, if_neg (by omega)]
      exact ⟨c22 _ _ _, ht, by rw [if_neg g]; exact ⟨c24 _ _ _, c23 _ _ _, c25 _ _ _⟩⟩
  · split
    · exact fw _ _ _
    · exact fw _ _ _
/-- the next token -/
theorem tw_next {N n t : Nat} {c : Nat → Int32} {ν : Mem} (hT : TP N n c) (hB : BY N (ν.1 28 7) c) (h : TW N n c t ν) (ht : t < n) (fu : Nat) :
    ∃ ν', fX13_scan (fu + 1001) 0 ν = some ((), ν') ∧ TW N n c (t + 1) ν' ∧ FW ν ν' := by
  obtain ⟨h1, h2, h3⟩ := h
  rw [if_pos ht] at h3
  exact tw_scan hT hB (tk_gt (hT.2.2.1 t ht)).2 h1 h3.2.1 rfl ht fu
/-- at the end, the model stays there -/
theorem tw_end {N n : Nat} {c : Nat → Int32} {ν : Mem} (hT : TP N n c) (hB : BY N (ν.1 28 7) c) (h : TW N n c n ν) (fu : Nat) :
    ∃ ν', fX13_scan (fu + 1001) 0 ν = some ((), ν') ∧ TW N n c n ν' ∧ FW ν ν' := by
  obtain ⟨h1, h2, h3⟩ := h
  rw [if_neg (by omega)] at h3
  exact tw_scan hT hB (Nat.le_refl _) h1 h3.2.1 (by rw [hT.2.2.2, tkS_stop (fun z => absurd z.1 (by omega))]) (Nat.le_refl _) fu
theorem m_startText {N n : Nat} {c : Nat → Int32} {ν : Mem} (hT : TP N n c) (hB : BY N (ν.1 28 7) c) (fu : Nat) :
    ∃ ν', fX13_startText (fu + 1001) 0 (nI N) ν = some ((), ν') ∧ TW N n c 0 ν' ∧ FW (wI (wI (wI (wI ν 26 0 22 (nI N)) 26 0 23 0) 26 0 26 0) 26 0 29 0) ν' := by
  unfold fX13_startText
  simp only [nm_eq]
  have eb : (wI (wI (wI (wI ν 26 0 22 (nI N)) 26 0 23 0) 26 0 26 0) 26 0 29 0).1 28 7 = ν.1 28 7 := funext fun k => by rw [wI_o (by omega), wI_o (by omega), wI_o (by omega), wI_o (by omega)]
  have e22 : (wI (wI (wI (wI ν 26 0 22 (nI N)) 26 0 23 0) 26 0 26 0) 26 0 29 0).1 26 0 22 = nI N := by rw [wI_o (by omega), wI_o (by omega), wI_o (by omega)]; exact wI_same
  have e23 : (wI (wI (wI (wI ν 26 0 22 (nI N)) 26 0 23 0) 26 0 26 0) 26 0 29 0).1 26 0 23 = nI 0 := by rw [wI_o (by omega), wI_o (by omega)]; exact wI_same
  obtain ⟨ν', s1, s2, s3⟩ := tw_scan (t := 0) hT (by rw [eb]; exact hB) (Nat.zero_le _) e22 e23 rfl (Nat.zero_le _) fu
  exact ⟨ν', by rw [s1, bnd_some], s2, s3⟩
/-! words and symbols -/
theorem wd_ch {c : Nat → Int32} {x i : Nat} : ∀ d j, wdG c x i d j = true → ∀ k, j ≤ k → k < j + d → txC i k = c (x + k) := by
  intro d
  induction d with
  | zero => intro j _ k h1 h2; omega
  | succ d ih =>
    intro j h k h1 h2
    have h' : (decide (txC i j = c (x + j)) && wdG c x i d (j + 1)) = true := h
    rw [Bool.and_eq_true] at h'
    by_cases e : k = j
    · rw [e]; exact of_decide_eq_true h'.1
    · exact ih (j + 1) h'.2 k (by omega) (by omega)
theorem tx_inj : ∀ i, i < 70 → ∀ j, j < 70 → txN.getD i 0 = txN.getD j 0 → (∀ k, k < 12 → k < txN.getD i 0 → txC i k = txC j k) → i = j := by decide +kernel
theorem sy_inj : ∀ s, s < 74 → ∀ r, r < 74 → 0 < txN.getD (syT.getD s 0) 0 → syT.getD s 0 = syT.getD r 0 → s = r := by decide +kernel
theorem sy_lt : ∀ s, s < 74 → syT.getD s 0 < 70 := by decide +kernel
theorem wd_inj {c : Nat → Int32} {x e i j : Nat} (hi : i < 70) (hj : j < 70) (a : wdE c x e i = true) (b : wdE c x e j = true) : i = j := by
  unfold wdE at a b
  rw [Bool.and_eq_true] at a b
  have a1 := of_decide_eq_true a.1
  have b1 := of_decide_eq_true b.1
  refine tx_inj i hi j hj (by omega) fun k _ hk => ?_
  rw [wd_ch _ _ a.2 k (Nat.zero_le _) (by omega), wd_ch _ _ b.2 k (Nat.zero_le _) (by omega)]
theorem sp_of {c : Nat → Int32} {x e n r : Nat} (hr : r < 74) (h0 : 0 < txN.getD (syT.getD r 0) 0) (h : wdE c x e (syT.getD r 0) = true) : ∀ d s, s + d = 74 → s ≤ r → spG c x e n d s = r := by
  intro d
  induction d with
  | zero => intro s h1 h2; omega
  | succ d ih =>
    intro s h1 h2
    show (if wdE c x e (syT.getD s 0) = true then s else spG c x e n d (s + 1)) = r
    by_cases g : wdE c x e (syT.getD s 0) = true
    · rw [if_pos g]
      exact (sy_inj r hr s (by omega) h0 (wd_inj (sy_lt r hr) (sy_lt s (by omega)) h g)).symm
    · rw [if_neg g]
      have ne : s ≠ r := fun q => g (by rw [q]; exact h)
      exact ih (s + 1) (by omega) (by omega)
theorem sp_is {c : Nat → Int32} {x e n r : Nat} (hn : r ≠ n) : ∀ d s, spG c x e n d s = r → wdE c x e (syT.getD r 0) = true := by
  intro d
  induction d with
  | zero => intro s h; exact absurd h.symm hn
  | succ d ih =>
    intro s h
    have h' : (if wdE c x e (syT.getD s 0) = true then s else spG c x e n d (s + 1)) = r := h
    by_cases g : wdE c x e (syT.getD s 0) = true
    · rw [if_pos g] at h'; rw [← h']; exact g
    · rw [if_neg g] at h'; exact ih (s + 1) h'
/-- the class's symbol is r just where the bytes spell r -/
theorem sp_iff {c : Nat → Int32} {x e n r : Nat} (hr : r < 74) (h0 : 0 < txN.getD (syT.getD r 0) 0) (hn : r ≠ n) : spG c x e n 74 0 = r ↔ wdE c x e (syT.getD r 0) = true :=
  ⟨sp_is hn _ _, fun h => sp_of hr h0 h _ _ rfl (Nat.zero_le _)⟩
