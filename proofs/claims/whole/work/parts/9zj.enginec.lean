/-! PARSING: a clause of an engine, in the program -/
def PDk (s B cnt e0 : Nat) (μ : Mem) (T : Nat → Int32) : Prop :=
  cnt ≤ 32 ∧ T 0 = nI cnt ∧ μ.1 5 s 0 = nI cnt ∧ (∀ a, a < cnt → relI μ (33 * s + a) B (fun k => T (284 + 6 * a + k))) ∧ (∀ a, cnt ≤ a → a < 32 → ∀ k, k < 6 → T (284 + 6 * a + k) = 0) ∧
  (∀ e, e < 4 → e ≠ e0 → PE s B e μ T) ∧ (∀ q, q < 16 → T (4 + 6 * q + 2) = b2 (bt (μ.1 5 s 1) q)) ∧
  (∀ a, a < 284 → a ≠ 0 → (∀ q, q < 16 → a ≠ 4 + 6 * q + 2) → T a = if a = 2 then -1 else 0) ∧ ∀ a, 560 ≤ a → a < 700 → T a = 0
theorem pd_k {s B cnt e0 : Nat} {μ : Mem} {T : Nat → Int32} (h : PD s B cnt μ T) : PDk s B cnt e0 μ T := by
  obtain ⟨h1, h2, h3, h4, h5, h6, h7, h8, h9⟩ := h
  exact ⟨h1, h2, h3, h4, h5, fun e he _ => h6 e he, h7, h8, h9⟩
theorem relI_c {μ μ' : Mem} {j B : Nat} {P : Nat → Int32} (h : relI μ j B P) (e1 : μ'.1 9 j = μ.1 9 j) (e2 : μ'.2.1 9 j = μ.2.1 9 j) : relI μ' j B P := by
  unfold relI at h ⊢
  rw [e1, e2]
  exact h
theorem relI_P {μ : Mem} {j B : Nat} {P P' : Nat → Int32} (h : relI μ j B P) (e : ∀ k, k < 6 → P' k = P k) : relI μ j B P' := by
  unfold relI at h ⊢
  rw [e 0 (by decide), e 1 (by decide), e 2 (by decide), e 3 (by decide), e 4 (by decide), e 5 (by decide)]
  exact h
theorem pe_c {s B e : Nat} {μ μ' : Mem} {T T' : Nat → Int32} (h : PE s B e μ T) (e1 : μ'.1 8 (4 * s + e) = μ.1 8 (4 * s + e)) (e2 : ∀ k, k < 21 → T' (476 + 21 * e + k) = T (476 + 21 * e + k)) : PE s B e μ' T' := by
  unfold PE
  rw [e1]
  rcases h with ⟨a, b⟩ | h
  · exact Or.inl ⟨fun k hk => (e2 k hk).trans (a k hk), b⟩
  · refine Or.inr fun i hi => fS_c hi (fun _ _ _ => rfl) (fun k hk _ => e2 k hk) (h i hi)
theorem pdk_c {s B cnt e0 : Nat} {μ μ' : Mem} {T : Nat → Int32} (h : PDk s B cnt e0 μ T) (f : FcE (4 * s + e0) μ μ') (he : e0 < 4) : PDk s B cnt e0 μ' T := by
  obtain ⟨h1, h2, h3, h4, h5, h6, h7, h8, h9⟩ := h
  refine ⟨h1, h2, (f.1 5 s 0 (by omega) (by omega)).trans h3, fun a ha => relI_c (h4 a ha) (funext fun k => f.1 9 _ k (by omega) (by omega)) (by rw [f.2]), h5, fun e he' hne => pe_c (h6 e he' hne) (funext fun k => f.1 8 _ k (by omega) (by omega)) (fun _ _ => rfl), fun q hq => by rw [f.1 5 s 1 (by omega) (by omega)]; exact h7 q hq, h8, h9⟩
theorem pd_join {s B cnt e0 : Nat} {μ : Mem} {T T' : Nat → Int32} (h : PDk s B cnt e0 μ T) (he : e0 < 4) (e : ∀ a, ¬ (476 + 21 * e0 ≤ a ∧ a < 497 + 21 * e0) → T' a = T a) (hq : QS B (μ.1 8 (4 * s + e0)) (fun k => T' (476 + 21 * e0 + k))) : PD s B cnt μ T' := by
  obtain ⟨h1, h2, h3, h4, h5, h6, h7, h8, h9⟩ := h
  refine ⟨h1, (e 0 (by omega)).trans h2, h3, fun a ha => ?_, fun a ha hb k hk => (e _ (by omega)).trans (h5 a ha hb k hk), fun e' he' => ?_, fun q hq => (e _ (by omega)).trans (h7 q hq), fun a ha hb hc => (e a (by omega)).trans (h8 a ha hb hc), fun a ha hb => (e a (by omega)).trans (h9 a ha hb)⟩
  · exact relI_P (h4 a ha) fun k hk => e _ (by omega)
  · by_cases g : e' = e0
    · subst g; exact Or.inr hq
    · exact pe_c (h6 e' he' g) rfl (fun k hk => e _ (by omega))
theorem nf0 {i0 p : Nat} {ν : Mem} (hp : p < 284 ∨ 560 ≤ p ∨ ∃ e, e < 4 ∧ p = 476 + 21 * e) : nf i0 p ν := by
  refine ⟨fun e he hq => ?_, fun i h1 h2 => ?_⟩
  · exfalso
    rcases hp with h | h | ⟨e', h1, h2⟩ <;> omega
  · rcases hp with h | h | ⟨e', h1, h2⟩ <;> omega
theorem ic_cnt {N n s t t' : Nat} {c : Nat → Int32} {M M' : Md} {μ μ' ν : Mem} (h : IC N n c s M t μ ν) (h' : IC N n c s M' t' μ' ν) : ∀ m cnt m' cnt', NM N c M.1 M.2 cnt m ν → PD s M.2 cnt μ (TT M.1 ν) → NM N c M'.1 M'.2 cnt' m' ν → PD s M'.2 cnt' μ' (TT M'.1 ν) → cnt = cnt' ∧ m = m' := by
  intro m cnt m' cnt' a b a' b'
  have e1 := (tt_no a (nf0 (Or.inl (by decide : (0 : Nat) < 284)))).symm.trans b.2.1
  have e2 := (tt_no a' (nf0 (Or.inl (by decide : (0 : Nat) < 284)))).symm.trans b'.2.1
  have := b.1
  have := b'.1
  have := a.2.1
  have := a'.2.1
  exact ⟨nI_inj (by omega) (by omega) (e1.symm.trans e2), nI_inj (by omega) (by omega) (a.1.symm.trans a'.1)⟩
theorem m_engA {N n t k fu : Nat} {c : Nat → Int32} {μ ν ν1 : Mem} (h : PG N n c t μ ν) (k2 : ν.1 26 0 25 = 2) (hk : k < 4) (ev : fX13_value (fu + 1001) 0 ν = some (nI k, ν)) (hd : ν.1 27 1 (476 + 21 * k) = 0) (hs : fX13_scan (fu + 1001) 0 ν = some ((), ν1)) (h1 : ν1.1 26 0 26 = 0) :
    fX13_readEngine (fu + 1001) 0 ν = mEng (fu + 1001) (nI (476 + 21 * k)) (iniM ν1 k) := by
  have h26 := h.2.2.2.2.1
  have rr : (0 : Int32) ≤ nI k ∧ nI k ≤ 3 := ⟨(nI_leI (a := 0) (by decide) (by omega)).2 (by omega), (nI_leI (b := 3) (by omega) (by decide)).2 (by omega)⟩
  have ex : (476 : Int32) + 21 * nI k = nI (476 + 21 * k) := by rw [show (476 : Int32) = nI 476 from rfl, show (21 : Int32) = nI 21 from rfl, pk_mul, nI_add]
  have nn : ¬ ¬ ν.1 26 0 26 = 0 := fun z => z h26
  have ck : ∀ {α : Type} (f : Nat) (o : Option α), f < 21 → ckI (nI (476 + 21 * k + f)) (if 1 = 4 then 7000 else 700) o = o := fun f o hf => e_ck hk hf
  have ea : fX13_advance (fu + 1001) 0 ν = some ((), ν1) := by
    unfold fX13_advance
    simp only [jn_eq]
    rw [if_neg nn, hs, bnd_some]
  unfold fX13_readEngine
  simp only [jn_eq, nm_eq]
  rw [if_neg nn, if_neg (show ¬ ¬ ν.1 26 0 25 = 2 from fun z => z k2), m_chk1, bnd_some, if_neg nn, ev, bnd_some, r_inRange, bnd_some, if_pos rr, if_neg (show ¬ (1 : Int32) = 0 by decide), m_chk1, bnd_some, if_neg nn, ev, bnd_some, ex, if_neg nn]
  simp only [show nI (476 + 21 * k) + (0 : Int32) = nI (476 + 21 * k + 0) from e_add (k := 0), show nI (476 + 21 * k) + (2 : Int32) = nI (476 + 21 * k + 2) from e_add (k := 2), show nI (476 + 21 * k) + (4 : Int32) = nI (476 + 21 * k + 4) from e_add (k := 4), show nI (476 + 21 * k) + (15 : Int32) = nI (476 + 21 * k + 15) from e_add (k := 15), show nI (476 + 21 * k) + (17 : Int32) = nI (476 + 21 * k + 17) from e_add (k := 17), show nI (476 + 21 * k) + (19 : Int32) = nI (476 + 21 * k + 19) from e_add (k := 19), show nI (476 + 21 * k) + (20 : Int32) = nI (476 + 21 * k + 20) from e_add (k := 20), ck 0 _ (by decide), e_cl hk (show 0 < 21 by decide)]
  rw [if_neg (show ¬ ¬ ν.1 27 1 (476 + 21 * k + 0) = 0 from fun z => z hd), m_chk1, bnd_some, ea, bnd_some, if_pos h1]
  simp only [ck 2 _ (by decide), ck 4 _ (by decide), ck 15 _ (by decide), ck 17 _ (by decide), ck 19 _ (by decide), ck 20 _ (by decide), e_cl hk (show 2 < 21 by decide), e_cl hk (show 4 < 21 by decide), e_cl hk (show 15 < 21 by decide), e_cl hk (show 17 < 21 by decide), e_cl hk (show 19 < 21 by decide), e_cl hk (show 20 < 21 by decide)]
  unfold mEng mLoop iniM
  simp only [show nI (476 + 21 * k) + (0 : Int32) = nI (476 + 21 * k + 0) from e_add (k := 0), e_cl hk (show 0 < 21 by decide), ck 0 _ (by decide)]
