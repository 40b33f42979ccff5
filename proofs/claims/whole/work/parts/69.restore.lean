/-! promise 45: restoreSnapshot -/
def resC (μ : Mem) : Mem := wI (cpS (tau 2) (sC 0) μ) 0 0 15 0
def resM (ν : Mem) : Mem := wI (rwP 3 0 0 0 700 (wI ν 26 0 6 0)) 26 0 5 0
theorem res_out {μ : Mem} {a b c : Nat} (h0 : a ≠ 0) (h : wd a = 0 ∨ b / wd a ≠ 0) : (resC μ).1 a b c = μ.1 a b c := by
  unfold resC
  rw [wI_at, if_neg (fun q => h0 q.1)]
  exact cp_out own_S h
theorem res_same {μ : Mem} : Same μ (resC μ) 2 0 := by
  refine same_trans cp_same (same_own fun κ n k hw _ => ?_)
  have : κ ≠ 0 := fun q => hw (by rw [q]; rfl)
  unfold resC
  rw [wI_at, if_neg (fun q => this q.1)]
theorem res_stay {i : Nat} {μ : Mem} (h : i ≠ 0) : Same μ (resC μ) i i :=
  same_own fun κ n k hw hn => res_out (fun q => hw (by rw [q]; rfl)) (Or.inr (by rw [hn]; exact h))
theorem resM_26 {ν : Mem} {n k : Nat} (h6 : k ≠ 6) (h5 : k ≠ 5) : (resM ν).1 26 n k = ν.1 26 n k := by
  unfold resM
  rw [wI_at, if_neg (fun q => h5 q.2.2)]
  show (wI ν 26 0 6 0).1 26 n k = _
  rw [wI_at, if_neg (fun q => h6 q.2.2)]
theorem resM_27 {ν : Mem} {n k : Nat} (h : n ≠ 0) : (resM ν).1 27 n k = ν.1 27 n k := by
  show (if 27 = 27 ∧ n = 0 ∧ 700 * 0 ≤ k ∧ k < 700 * 0 + 700 then _ else _) = _
  rw [if_neg (fun q => h q.2.1)]
  rfl
theorem resM_0 {ν : Mem} {k : Nat} (h : k < 700) : (resM ν).1 27 0 k = rowT ν 3 0 k := by
  show (if 27 = 27 ∧ 0 = 0 ∧ 700 * 0 ≤ k ∧ k < 700 * 0 + 700 then (wI ν 26 0 6 0).1 27 3 (700 * 0 + (k - 700 * 0)) else _) = _
  rw [if_pos ⟨rfl, rfl, by omega, by omega⟩, show 700 * 0 + (k - 700 * 0) = 0 + k by omega]
  rfl
theorem rel2_restore {p : Nat} {μ ν : Mem} (h : Rel2 p μ ν) (hs : μ.1 0 0 12 = 1) : Rel2 p (resC μ) (resM ν) := by
  obtain ⟨⟨r1, r2, r3, r4, r5, r6⟩, hP, hM, ⟨n, hn, b1, b2, b3⟩, hE, ⟨u, e, hu, he, u1, u2, e1, hist⟩, hS, hk3, hk9, hq, hz⟩ := h
  have k0 : ∀ {k : Nat}, k ≠ 15 → (resC μ).1 0 0 k = μ.1 0 0 k := fun h1 => by
    unfold resC
    rw [wI_at, if_neg (fun q => h1 q.2.2)]
    exact cp_out own_S (Or.inl rfl)
  have kw : ∀ {a : Nat}, a ≠ 0 → wd a = 0 → (resC μ).1 a = μ.1 a := fun h0 hw => funext fun b => funext fun c => res_out h0 (Or.inl hw)
  have w5 := kw (a := 5) (by decide) rfl
  have w8 := kw (a := 8) (by decide) rfl
  have w9 := kw (a := 9) (by decide) rfl
  have w1 := kw (a := 1) (by decide) rfl
  have h8 : ∀ e', e' < 4 → (resC μ).1 8 (4 * p + e') 0 = μ.1 8 (4 * p + e') 0 := fun e' _ => by rw [w8]
  have hp : ∀ {T : Nat → Int32}, relP μ p T → relP (resC μ) p T := fun q => relP_congr w5 w8 w9 rfl q
  have t0 : ∀ k, k < 700 → (resM ν).1 27 0 k = rowT ν 3 0 k := fun k hk => resM_0 hk
  have t3 : ∀ k, k < 700 → rowT (resM ν) 3 0 k = rowT ν 3 0 k := fun k _ => resM_27 (by decide)
  obtain ⟨s1, s2, s3, s4⟩ : μ.1 0 0 12 = 1 ∧ ν.1 26 0 7 = 1 ∧ relP μ p (rowT ν 3 0) ∧ relM μ 2 p (rowT ν 3 0) := hS.elim (fun q => absurd (q.1.symm.trans hs) (by decide)) id
  refine ⟨⟨r1, r2, r3, r4, r5, r6⟩, relP_T t0 (hp s3), relM_T t0 (relM_same res_same h8 s4), ⟨n, hn, (k0 (by decide)).trans b1, (resM_26 (by decide) (by decide)).trans b2, fun k hk => ?_⟩, ?_, ⟨0, e, by decide, he, wI_same, wI_same, (k0 (by decide)).trans e1, fun k hk => absurd hk (by omega)⟩, Or.inr ⟨(k0 (by decide)).trans s1, (resM_26 (by decide) (by decide)).trans s2, relP_T t3 (hp s3), relM_T t3 (relM_same (res_stay (by decide)) h8 s4)⟩, hk3, hk9, fun j hj => ?_, fun j hj => ?_⟩
  · rw [w1]; exact b3 k hk
  · rw [k0 (by decide), resM_26 (by decide) (by decide)]; exact hE
  · by_cases hm : j / 8 = 0
    · have e3 := ((res_same (μ := μ)).2.2.2.2.2 ((j % 8) / 2) (by omega)).2.2 (j % 2) (by omega)
      rw [show 2 * (4 * 0 + j % 8 / 2) + j % 2 = j by omega] at e3
      obtain ⟨s, hh, r, a, b, c, d1, d2, d3⟩ := hq (2 * (4 * 2 + j % 8 / 2) + j % 2) (by omega)
      exact ⟨s, hh, r, a, b, c, (e3.1 0 (by decide)).trans d1, (e3.1 1 (by decide)).trans d2, (e3.1 2 (by decide)).trans d3⟩
    · obtain ⟨s, hh, r, a, b, c, d1, d2, d3⟩ := hq j hj
      have o : ∀ {k : Nat}, (resC μ).1 19 j k = μ.1 19 j k := res_out (by decide) (Or.inr hm)
      exact ⟨s, hh, r, a, b, c, o.trans d1, o.trans d2, o.trans d3⟩
  · by_cases hm : j / 4 = 0
    · have e3 := ((res_same (μ := μ)).2.2.2.2.2 (j % 4) (by omega)).1 10 (by decide)
      rw [show 4 * 0 + j % 4 = j by omega] at e3
      rw [e3]
      exact hz _ (by omega)
    · rw [res_out (by decide) (Or.inr hm)]
      exact hz j hj
