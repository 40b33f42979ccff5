/-! a queue of an engine changes, nothing else does -/
theorem relM_q {μ μ' : Mem} {p e t : Nat} {T T' : Nat → Int32} (he0 : e < 4) (ht : t < 2) (hc : ∀ κ n k, ¬ ((κ = 19 ∨ κ = 20) ∧ n = 2 * e + t) → μ'.1 κ n k = μ.1 κ n k)
    (hT : ∀ k, k < 700 → ¬ (k = 560 + 35 * e + (11 + t) ∨ (560 + 35 * e + (13 + 8 * t) ≤ k ∧ k < 560 + 35 * e + (21 + 8 * t))) → T' k = T k)
    (hq : μ.1 8 (4 * p + e) 0 = 1 → relQ μ' (2 * e + t) (T' (560 + 35 * e + (11 + t))) (T (476 + 21 * e + (19 + t))) (fun k => T' (560 + 35 * e + (13 + 8 * t + k)))) (q : relM μ 0 p T) : relM μ' 0 p T' := by
  obtain ⟨⟨c, hc', c1, c2, c3⟩, ⟨o1, o2⟩, hp, hf, hm, ⟨n, hn, n1, n2, n3⟩, he⟩ := q
  have s : ∀ {κ n k : Nat}, κ ≠ 19 → κ ≠ 20 → μ'.1 κ n k = μ.1 κ n k := fun {κ n k} a b => hc κ n k (fun q => q.1.elim a b)
  refine ⟨⟨c, hc', (hT 1 (by omega) (by omega)).trans c1, (s (by decide) (by decide)).trans c2, fun k hk hkc q hq => ?_⟩, ?_, fun q hq => ?_, fun f hf' => ?_, fun a' ha' => ?_, ⟨n, hn, (hT 3 (by omega) (by omega)).trans n1, (s (by decide) (by decide)).trans n2, fun k hk => ?_⟩, fun e' he4 h1 => ?_⟩
  · rw [hT _ (by omega) (by omega), s (by decide) (by decide)]; exact c3 k hk hkc q hq
  · rw [hT 2 (by omega) (by omega), s (by decide) (by decide)]; exact ⟨o1, o2⟩
  · have := hp q hq
    unfold relPin at this ⊢
    simp only [hT (4 + 6 * q + 0) (by omega) (by omega), hT (4 + 6 * q + 1) (by omega) (by omega), hT (4 + 6 * q + 2) (by omega) (by omega), hT (4 + 6 * q + 3) (by omega) (by omega), hT (4 + 6 * q + 4) (by omega) (by omega), hT (4 + 6 * q + 5) (by omega) (by omega)]
    rw [s (κ := 12) (by decide) (by decide), s (κ := 12) (by decide) (by decide), s (κ := 12) (by decide) (by decide), s (κ := 12) (by decide) (by decide), s (κ := 12) (by decide) (by decide), s (κ := 17) (by decide) (by decide), s (κ := 17) (by decide) (by decide)]
    exact this
  · rw [hT _ (by omega) (by omega), s (by decide) (by decide)]; exact hf f hf'
  · rw [hT _ (by omega) (by omega), s (by decide) (by decide)]; exact hm a' ha'
  · obtain ⟨c', q, l, b1, b2, b3, b4, b5, b6, b7⟩ := n3 k hk
    exact ⟨c', q, l, b1, b2, b3, (hT _ (by omega) (by omega)).trans b4, (hT _ (by omega) (by omega)).trans b5, (hT _ (by omega) (by omega)).trans b6, (s (by decide) (by decide)).trans b7⟩
  · rw [s (by decide) (by decide)] at h1
    obtain ⟨⟨a1, a2, a3, a4, a5, a6, a7, a8, a9, a10⟩, b, cnt, d1, d2, d3, d4⟩ := he e' he4 h1
    have tk : ∀ k, k < 11 ∨ 29 ≤ k → k < 35 → T' (560 + 35 * e' + k) = T (560 + 35 * e' + k) := fun k h1 h2 => hT _ (by omega) (by rcases Nat.lt_trichotomy e' e with h | h | h <;> omega)
    have q : ∀ t', t' < 2 → relQ μ' (2 * (4 * 0 + e') + t') (T' (560 + 35 * e' + (11 + t'))) (T' (476 + 21 * e' + (19 + t'))) (fun k => T' (560 + 35 * e' + (13 + 8 * t' + k))) := by
      intro t' ht'
      rw [hT (476 + 21 * e' + (19 + t')) (by omega) (by omega)]
      by_cases hh : e' = e ∧ t' = t
      · obtain ⟨rfl, rfl⟩ := hh
        rw [show 2 * (4 * 0 + e') + t' = 2 * e' + t' by omega]
        exact hq h1
      · have old : relQ μ (2 * (4 * 0 + e') + t') (T (560 + 35 * e' + (11 + t'))) (T (476 + 21 * e' + (19 + t'))) (fun k => T (560 + 35 * e' + (13 + 8 * t' + k))) := by
          have : t' = 0 ∨ t' = 1 := by omega
          rcases this with h | h <;> subst h
          · exact a9
          · exact a10
        refine relQ_same (fun k _ => hc _ _ _ (by omega)) (fun k _ => hc _ _ _ (by omega)) (relQ_T (hT _ (by omega) (by rcases Nat.lt_trichotomy e' e with h | h | h <;> omega)) rfl (fun k hk => hT _ (by omega) (by rcases Nat.lt_trichotomy e' e with h | h | h <;> omega)) old)
    refine ⟨⟨?_, ?_, fun k hk => ?_, fun k hk => ?_, ?_, ?_, ?_, ?_, q 0 (by decide), q 1 (by decide)⟩, b, cnt, (hT 0 (by omega) (by omega)).trans d1, d2, (hT (561 + 35 * e') (by omega) (by rcases Nat.lt_trichotomy e' e with h | h | h <;> omega)).trans d3, d4⟩
    · exact (tk 0 (by omega) (by omega)).trans (a1.trans (s (by decide) (by decide)).symm)
    · exact a2.imp (tk 0 (by omega) (by omega)).trans (tk 0 (by omega) (by omega)).trans
    · exact (tk (k + 1) (by omega) (by omega)).trans ((a3 k hk).trans (s (by decide) (by decide)).symm)
    · exact (tk (29 + k) (by omega) (by omega)).trans ((a4 k hk).trans (s (by decide) (by decide)).symm)
    · obtain ⟨n', g1, g2⟩ := a5; exact ⟨n', g1, (tk 6 (by omega) (by omega)).trans g2⟩
    · obtain ⟨n', g1, g2⟩ := a6; exact ⟨n', g1, (tk 7 (by omega) (by omega)).trans g2⟩
    · obtain ⟨n', g1, g2⟩ := a7; exact ⟨n', g1, (tk 8 (by omega) (by omega)).trans g2⟩
    · obtain ⟨n', g1, g2⟩ := a8; exact ⟨n', g1, (tk 9 (by omega) (by omega)).trans g2⟩
