/-! promise 44: saveSnapshot -/
def savC (μ : Mem) : Mem := wI (cpS (tau 0) (sC 2) μ) 0 0 12 1
def savM (ν : Mem) : Mem := wI (rwP 0 0 3 0 700 (wI ν 26 0 6 0)) 26 0 7 1
theorem c_save {p : Nat} {μ ν : Mem} (h : Rel2 p μ ν) (fu : Nat) : fX12_saveSnapshot (fu + 5) 0 μ = some ((), savC μ) := by
  unfold fX12_saveSnapshot
  rw [cp_machine (by decide) (fun e he => rel2_z h (by omega)), bnd_some, ckZ_ok (Or.inr rfl), nm_eq]
  rfl
theorem m_save {ν : Mem} (fu : Nat) : fX13_saveSnapshot (fu + 701) 0 ν = some ((), savM ν) := by
  have e : fX13_copy (fu + 701) 0 0 3 0 (wI ν 26 0 6 0) = _ := m_copy (a := 0) (r := 0) (b := 3) (s := 0) (Or.inl (by decide)) (by decide) (by decide) fu
  unfold fX13_saveSnapshot
  rw [nm_eq, e, bnd_some, ckZ_ok (Or.inr rfl), nm_eq]
  rfl
theorem sav_out {μ : Mem} {a b c : Nat} (h0 : a ≠ 0) (h : wd a = 0 ∨ b / wd a ≠ 2) : (savC μ).1 a b c = μ.1 a b c := by
  unfold savC
  rw [wI_at, if_neg (fun q => h0 q.1)]
  exact cp_out own_S h
theorem sav_same {μ : Mem} : Same μ (savC μ) 0 2 := by
  refine same_trans cp_same (same_own fun κ n k hw _ => ?_)
  have : κ ≠ 0 := fun q => hw (by rw [q]; rfl)
  unfold savC
  rw [wI_at, if_neg (fun q => this q.1)]
theorem sav_stay {i : Nat} {μ : Mem} (h : i ≠ 2) : Same μ (savC μ) i i :=
  same_own fun κ n k hw hn => sav_out (fun q => hw (by rw [q]; rfl)) (Or.inr (by rw [hn]; exact h))
theorem savM_26 {ν : Mem} {n k : Nat} (h6 : k ≠ 6) (h7 : k ≠ 7) : (savM ν).1 26 n k = ν.1 26 n k := by
  unfold savM
  rw [wI_at, if_neg (fun q => h7 q.2.2)]
  show (wI ν 26 0 6 0).1 26 n k = _
  rw [wI_at, if_neg (fun q => h6 q.2.2)]
theorem savM_27 {ν : Mem} {n k : Nat} (h : n ≠ 3) : (savM ν).1 27 n k = ν.1 27 n k := by
  show (if 27 = 27 ∧ n = 3 ∧ 700 * 0 ≤ k ∧ k < 700 * 0 + 700 then _ else _) = _
  rw [if_neg (fun q => h q.2.1)]
  rfl
theorem savM_3 {ν : Mem} {k : Nat} (h : k < 700) : (savM ν).1 27 3 k = ν.1 27 0 k := by
  show (if 27 = 27 ∧ 3 = 3 ∧ 700 * 0 ≤ k ∧ k < 700 * 0 + 700 then (wI ν 26 0 6 0).1 27 0 (700 * 0 + (k - 700 * 0)) else _) = _
  rw [if_pos ⟨rfl, rfl, by omega, by omega⟩, show 700 * 0 + (k - 700 * 0) = k by omega]
  rfl
theorem rel2_save {p : Nat} {μ ν : Mem} (h : Rel2 p μ ν) : Rel2 p (savC μ) (savM ν) := by
  obtain ⟨⟨r1, r2, r3, r4, r5, r6⟩, hP, hM, ⟨n, hn, b1, b2, b3⟩, hE, ⟨u, e, hu, he, u1, u2, e1, hist⟩, hS, hk3, hk9, hq, hz⟩ := h
  have k0 : ∀ {k : Nat}, k ≠ 12 → (savC μ).1 0 0 k = μ.1 0 0 k := fun h1 => by
    unfold savC
    rw [wI_at, if_neg (fun q => h1 q.2.2)]
    exact cp_out own_S (Or.inl rfl)
  have kw : ∀ {a : Nat}, a ≠ 0 → wd a = 0 → (savC μ).1 a = μ.1 a := fun h0 hw => funext fun b => funext fun c => sav_out h0 (Or.inl hw)
  have w5 := kw (a := 5) (by decide) rfl
  have w8 := kw (a := 8) (by decide) rfl
  have w9 := kw (a := 9) (by decide) rfl
  have w1 := kw (a := 1) (by decide) rfl
  have h8 : ∀ e', e' < 4 → (savC μ).1 8 (4 * p + e') 0 = μ.1 8 (4 * p + e') 0 := fun e' _ => by rw [w8]
  have hp : ∀ {T : Nat → Int32}, relP μ p T → relP (savC μ) p T := fun q => relP_congr w5 w8 w9 rfl q
  have t0 : ∀ k, k < 700 → (savM ν).1 27 0 k = ν.1 27 0 k := fun k _ => savM_27 (by decide)
  have t4 : ∀ {o : Nat} (k : Nat), k < 700 → rowT (savM ν) 4 o k = rowT ν 4 o k := fun k _ => savM_27 (by decide)
  have t3 : ∀ k, k < 700 → rowT (savM ν) 3 0 k = ν.1 27 0 k := fun k hk => by
    show (savM ν).1 27 3 (0 + k) = _
    rw [Nat.zero_add]; exact savM_3 hk
  refine ⟨⟨r1, r2, r3, r4, r5, r6⟩, relP_T t0 (hp hP), relM_T t0 (relM_same (sav_stay (by decide)) h8 hM), ⟨n, hn, (k0 (by decide)).trans b1, (savM_26 (by decide) (by decide)).trans b2, fun k hk => ?_⟩, ?_, ⟨u, e, hu, he, (k0 (by decide)).trans u1, (savM_26 (by decide) (by decide)).trans u2, (k0 (by decide)).trans e1, fun k hk => ?_⟩, Or.inr ⟨wI_same, wI_same, relP_T t3 (hp hP), relM_T t3 (relM_same sav_same h8 hM)⟩, hk3, hk9, fun j hj => ?_, fun j hj => ?_⟩
  · rw [w1]; exact b3 k hk
  · rw [k0 (by decide), savM_26 (by decide) (by decide)]; exact hE
  · obtain ⟨q1, q2⟩ := hist k hk
    exact ⟨relP_T t4 (hp q1), relM_T t4 (relM_same (sav_stay (by omega)) h8 q2)⟩
  · by_cases hm : j / 8 = 2
    · have e3 := ((sav_same (μ := μ)).2.2.2.2.2 ((j % 8) / 2) (by omega)).2.2 (j % 2) (by omega)
      rw [show 2 * (4 * 2 + j % 8 / 2) + j % 2 = j by omega] at e3
      obtain ⟨s, hh, r, a, b, c, d1, d2, d3⟩ := hq (2 * (4 * 0 + j % 8 / 2) + j % 2) (by omega)
      exact ⟨s, hh, r, a, b, c, (e3.1 0 (by decide)).trans d1, (e3.1 1 (by decide)).trans d2, (e3.1 2 (by decide)).trans d3⟩
    · obtain ⟨s, hh, r, a, b, c, d1, d2, d3⟩ := hq j hj
      have o : ∀ {k : Nat}, (savC μ).1 19 j k = μ.1 19 j k := sav_out (by decide) (Or.inr hm)
      exact ⟨s, hh, r, a, b, c, o.trans d1, o.trans d2, o.trans d3⟩
  · by_cases hm : j / 4 = 2
    · have e3 := ((sav_same (μ := μ)).2.2.2.2.2 (j % 4) (by omega)).1 10 (by decide)
      rw [show 4 * 2 + j % 4 = j by omega] at e3
      rw [e3]
      exact hz _ (by omega)
    · rw [sav_out (by decide) (Or.inr hm)]
      exact hz j hj
