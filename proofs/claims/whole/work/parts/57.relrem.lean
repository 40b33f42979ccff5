/-- the counts that Rel2 speaks of, and the class's and the model's remembering: the relation stays -/
theorem rel2_remember {p : Nat} {μ ν : Mem} (h : Rel2 p μ ν) : ∃ e u : Nat, e < 10 ∧ u ≤ 10 ∧ μ.1 0 0 14 = nI e ∧ μ.1 0 0 15 = nI u ∧ ν.1 26 0 5 = nI u ∧ Rel2 p (remC e u μ) (recM u ν) := by
  obtain ⟨⟨r1, r2, r3, r4, r5, r6⟩, hP, hM, ⟨n, hn, b1, b2, b3⟩, hE, ⟨u, e, hu, he, u1, u2, e1, hist⟩, hS, hk3, hk9, hq, hz⟩ := h
  refine ⟨e, u, he, hu, e1, u1, u2, ?_⟩
  have k0 : ∀ {k : Nat}, k ≠ 14 → k ≠ 15 → (remC e u μ).1 0 0 k = μ.1 0 0 k := fun h1 h2 => by
    unfold remC
    rw [wI_at, if_neg (fun q => h2 q.2.2), wI_at, if_neg (fun q => h1 q.2.2)]
    exact cp_out own_S (Or.inl rfl)
  have kw : ∀ {a : Nat}, a ≠ 0 → wd a = 0 → (remC e u μ).1 a = μ.1 a := fun h0 hw => funext fun b => funext fun c => rem_out h0 (Or.inl hw)
  have w5 := kw (a := 5) (by decide) rfl
  have w8 := kw (a := 8) (by decide) rfl
  have w9 := kw (a := 9) (by decide) rfl
  have w1 := kw (a := 1) (by decide) rfl
  have h8 : ∀ e', e' < 4 → (remC e u μ).1 8 (4 * p + e') 0 = μ.1 8 (4 * p + e') 0 := fun e' _ => by rw [w8]
  have hp : ∀ {T : Nat → Int32}, relP μ p T → relP (remC e u μ) p T := fun q => relP_congr w5 w8 w9 rfl q
  have tN0 : ∀ k, k < 700 → (recM u ν).1 27 0 k = ν.1 27 0 k := fun k _ => rec_27 (by decide)
  have tN3 : ∀ k, k < 700 → rowT (recM u ν) 3 0 k = rowT ν 3 0 k := fun k _ => rec_27 (by decide)
  refine ⟨⟨r1, r2, r3, r4, r5, r6⟩, relP_T tN0 (hp hP), relM_T tN0 (relM_same (rem_stay (by omega)) h8 hM), ⟨n, hn, (k0 (by decide) (by decide)).trans b1, (rec_26 (by decide)).trans b2, fun k hk => ?_⟩, ?_, ?_, ?_, hk3, hk9, fun j hj => ?_, fun j hj => ?_⟩
  · rw [rec_28, w1]; exact b3 k hk
  · rw [k0 (by decide) (by decide), rec_26 (by decide)]; exact hE
  · refine ⟨if u = 10 then 10 else u + 1, (e + 1) % 10, by split <;> omega, Nat.mod_lt _ (by decide), wI_same, ?_, ?_, fun k hk => ?_⟩
    · unfold recM; split
      · exact wI_same
      · exact wI_same
    · unfold remC
      rw [wI_at, if_neg (by decide)]
      exact wI_same
    · by_cases hl : k = (if u = 10 then 10 else u + 1) - 1
      · have tr : ∀ j, j < 700 → rowT (recM u ν) 4 (700 * k) j = ν.1 27 0 j := fun j hj => by
          subst hl
          exact rec_last hu hj
        have ei : 3 + ((e + 1) % 10 + 10 - (if u = 10 then 10 else u + 1) + k) % 10 = 3 + e := by
          subst hl
          split <;> omega
        rw [ei]
        exact ⟨relP_T tr (hp hP), relM_T tr (relM_same rem_same h8 hM)⟩
      · have hk' : k < (if u = 10 then 10 else u + 1) - 1 := by omega
        have tr : ∀ j, j < 700 → rowT (recM u ν) 4 (700 * k) j = rowT ν 4 (700 * (k + (if u = 10 then 1 else 0))) j := fun j hj => rec_old hu hk' hj
        have hku : k + (if u = 10 then 1 else 0) < u := by split <;> split at hk' <;> omega
        obtain ⟨q1, q2⟩ := hist _ hku
        have ei : ((e + 1) % 10 + 10 - (if u = 10 then 10 else u + 1) + k) % 10 = (e + 10 - u + (k + (if u = 10 then 1 else 0))) % 10 := by
          split <;> omega
        have en : (e + 10 - u + (k + (if u = 10 then 1 else 0))) % 10 ≠ e := by
          split <;> split at hk' <;> omega
        rw [ei]
        exact ⟨relP_T tr (hp q1), relM_T tr (relM_same (rem_stay (by omega)) h8 q2)⟩
  · rw [k0 (by decide) (by decide), rec_26 (by decide)]
    exact hS.imp id fun ⟨a, b, c, d⟩ => ⟨a, b, relP_T tN3 (hp c), relM_T tN3 (relM_same (rem_stay (by omega)) h8 d)⟩
  · by_cases hm : j / 8 = 3 + e
    · have e3 := ((rem_same (e := e) (u := u) (μ := μ)).2.2.2.2.2 ((j % 8) / 2) (by omega)).2.2 (j % 2) (by omega)
      rw [show 2 * (4 * (3 + e) + j % 8 / 2) + j % 2 = j by omega] at e3
      obtain ⟨s, hh, r, a, b, c, d1, d2, d3⟩ := hq (2 * (4 * 0 + j % 8 / 2) + j % 2) (by omega)
      exact ⟨s, hh, r, a, b, c, (e3.1 0 (by decide)).trans d1, (e3.1 1 (by decide)).trans d2, (e3.1 2 (by decide)).trans d3⟩
    · obtain ⟨s, hh, r, a, b, c, d1, d2, d3⟩ := hq j hj
      have o : ∀ {k : Nat}, (remC e u μ).1 19 j k = μ.1 19 j k := rem_out (by decide) (Or.inr hm)
      exact ⟨s, hh, r, a, b, c, o.trans d1, o.trans d2, o.trans d3⟩
  · by_cases hm : j / 4 = 3 + e
    · have e3 := ((rem_same (e := e) (u := u) (μ := μ)).2.2.2.2.2 (j % 4) (by omega)).1 10 (by decide)
      rw [show 4 * (3 + e) + j % 4 = j by omega] at e3
      rw [e3]
      exact hz _ (by omega)
    · rw [rem_out (by decide) (Or.inr hm)]
      exact hz j hj
