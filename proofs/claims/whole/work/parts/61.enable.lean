theorem eng2_cases {p : Nat} {μ ν : Mem} (h : Rel2 p μ ν) (x : Int32) :
    (fX12_existingEngine 0 x μ = some (.inl 1, μ) ∧ fX13_exists 0 x ν = some (0, ν)) ∨
    (∃ e : Nat, e < 4 ∧ x = nI e ∧ fX12_existingEngine 0 x μ = some (.inr e, μ) ∧ fX13_exists 0 x ν = some (1, ν) ∧ μ.1 8 (4 * p + e) 0 = 1) := by
  rw [c_engine h.1.2.1 h.1.1]
  rcases ix_cases x (n := 4) (by decide) with hx | ⟨e, he, rfl⟩
  · refine Or.inl ⟨?_, m_exists_bad hx⟩
    rw [c_has_bad hx, bnd_some, if_neg nn0]
  · rw [c_has_at he, m_exists_at he]
    obtain ⟨_, _, _, _, _, h5⟩ := h.2.1
    have hs : (μ.1 8 (4 * p + e) 0 = 0 ∧ tN ν (476 + 21 * e) = 0) ∨ (μ.1 8 (4 * p + e) 0 = 1 ∧ tN ν (476 + 21 * e) = 1) := by
      rcases h5 e he with ⟨a, b⟩ | ⟨a, b, _⟩
      · exact Or.inl ⟨a, b⟩
      · exact Or.inr ⟨a, b⟩
    rcases hs with ⟨a, b⟩ | ⟨a, b⟩
    · refine Or.inl ⟨?_, ?_⟩
      · rw [if_pos a, bnd_some, if_neg nn0]
      · rw [b, if_neg (by decide)]
    · refine Or.inr ⟨e, he, rfl, ?_, ?_, a⟩
      · rw [if_neg (by rw [a]; decide), bnd_some, if_pos ne10, ckI_nI he (by decide), nI_clamp (by omega), show 4 * 0 + e = e by omega]
      · rw [b, if_pos rfl]
theorem rel2_engine {p : Nat} {μ ν : Mem} (h : Rel2 p μ ν) {e : Nat} (he : e < 4) (h1 : μ.1 8 (4 * p + e) 0 = 1) : relE μ e (tN ν (476 + 21 * e + 19)) (tN ν (476 + 21 * e + 20)) (fun k => tN ν (560 + 35 * e + k)) := by
  have := (h.2.2.1.2.2.2.2.2.2 e he h1).1
  rwa [show 4 * 0 + e = e by omega] at this
theorem relM_en {μ : Mem} {p e : Nat} {v : Int32} {T : Nat → Int32} (he0 : e < 4) (hv : v = 0 ∨ v = 1) (q : relM μ 0 p T) : relM (wI μ 18 e 10 v) 0 p (fun k => if k = 560 + 35 * e then v else T k) := by
  obtain ⟨⟨c, hc, c1, c2, c3⟩, ⟨o1, o2⟩, hp, hf, hm, ⟨n, hn, n1, n2, n3⟩, he⟩ := q
  have t : ∀ k, k ≠ 560 + 35 * e → (if k = 560 + 35 * e then v else T k) = T k := fun k h => if_neg h
  refine ⟨⟨c, hc, (t 1 (by omega)).trans c1, c2, fun k hk hkc q hq => ?_⟩, ?_, fun q hq => ?_, fun f hf' => (t _ (by omega)).trans (hf f hf'), fun a' ha' => (t _ (by omega)).trans (hm a' ha'), ⟨n, hn, (t 3 (by omega)).trans n1, n2, fun k hk => ?_⟩, fun e' he4 h1 => ?_⟩
  · show bt (if 220 + k = 560 + 35 * e then v else T (220 + k)) q = _
    rw [t _ (by omega)]; exact c3 k hk hkc q hq
  · show (if 2 = 560 + 35 * e then v else T 2) = _ ∧ ((if 2 = 560 + 35 * e then v else T 2) = -1 ∨ ∃ n : Nat, n < 4 ∧ (if 2 = 560 + 35 * e then v else T 2) = nI n)
    rw [t 2 (by omega)]; exact ⟨o1, o2⟩
  · obtain ⟨b1, b2, b3, b4, b5, b6⟩ := hp q hq
    exact ⟨(t _ (by omega)).trans b1, (t _ (by omega)).trans b2, (t _ (by omega)).trans b3, (t _ (by omega)).trans b4, (t _ (by omega)).trans b5, (t _ (by omega)).trans b6⟩
  · obtain ⟨c', q, l, b1, b2, b3, b4, b5, b6, b7⟩ := n3 k hk
    exact ⟨c', q, l, b1, b2, b3, (t _ (by omega)).trans b4, (t _ (by omega)).trans b5, (t _ (by omega)).trans b6, b7⟩
  · obtain ⟨x, b, cnt, d1, d2, d3, d4⟩ := he e' he4 h1
    refine ⟨?_, b, cnt, (t 0 (by omega)).trans d1, d2, (t _ (by omega)).trans d3, d4⟩
    by_cases hee : e' = e
    · subst hee
      obtain ⟨a1, a2, a3, a4, a5, a6, a7, a8, a9, a10⟩ := x
      have tk : ∀ k, 0 < k → (if 560 + 35 * e' + k = 560 + 35 * e' then v else T (560 + 35 * e' + k)) = T (560 + 35 * e' + k) := fun k hk => if_neg (by omega)
      have t0 : (if 560 + 35 * e' + 0 = 560 + 35 * e' then v else T (560 + 35 * e' + 0)) = v := if_pos rfl
      refine ⟨?_, ?_, fun k hk => ?_, fun k hk => (tk _ (by omega)).trans (a4 k hk), ?_, ?_, ?_, ?_, relQ_T (tk _ (by decide)) (t _ (by omega)) (fun k hk => tk _ (by omega)) a9, relQ_T (tk _ (by decide)) (t _ (by omega)) (fun k hk => tk _ (by omega)) a10⟩
      · show (if 560 + 35 * e' + 0 = 560 + 35 * e' then v else _) = (wI μ 18 e' 10 v).1 18 (4 * 0 + e') 10
        rw [t0, show 4 * 0 + e' = e' by omega]; exact wI_same.symm
      · show (if 560 + 35 * e' + 0 = 560 + 35 * e' then v else _) = 0 ∨ (if 560 + 35 * e' + 0 = 560 + 35 * e' then v else _) = 1
        rw [t0]; exact hv
      · show (if 560 + 35 * e' + (k + 1) = 560 + 35 * e' then v else _) = (wI μ 18 e' 10 v).1 18 (4 * 0 + e') k
        rw [tk _ (by omega), wI_at, if_neg (by omega)]; exact a3 k hk
      · show ∃ n : Nat, n ≤ 32 ∧ (if 560 + 35 * e' + 6 = 560 + 35 * e' then v else _) = nI n
        rw [tk 6 (by decide)]; exact a5
      · show ∃ n : Nat, n ≤ 32 ∧ (if 560 + 35 * e' + 7 = 560 + 35 * e' then v else _) = nI n
        rw [tk 7 (by decide)]; exact a6
      · show ∃ n : Nat, n ≤ 31 ∧ (if 560 + 35 * e' + 8 = 560 + 35 * e' then v else _) = nI n
        rw [tk 8 (by decide)]; exact a7
      · show ∃ n : Nat, n ≤ 5 ∧ (if 560 + 35 * e' + 9 = 560 + 35 * e' then v else _) = nI n
        rw [tk 9 (by decide)]; exact a8
    · have x' := relE_T (F' := fun k => if 560 + 35 * e' + k = 560 + 35 * e then v else T (560 + 35 * e' + k)) (t (476 + 21 * e' + 19) (by omega)) (t (476 + 21 * e' + 20) (by omega)) (fun k hk => t _ (by omega)) x
      obtain ⟨a1, a2, a3, a4, a5, a6, a7, a8, a9, a10⟩ := x'
      have w : ∀ k, (wI μ 18 e 10 v).1 18 (4 * 0 + e') k = μ.1 18 (4 * 0 + e') k := fun k => by rw [wI_at, if_neg (by omega)]
      exact ⟨a1.trans (w 10).symm, a2, fun k hk => (a3 k hk).trans (w k).symm, a4, a5, a6, a7, a8, a9, a10⟩
