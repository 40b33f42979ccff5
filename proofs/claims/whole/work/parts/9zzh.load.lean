/-! LOAD: promise 3 -/
theorem relS_c {μ μ' : Mem} {j cnt : Nat} {S : Nat → Int32} (h : relS μ j cnt S) (e : μ'.1 8 j = μ.1 8 j) : relS μ' j cnt S := by
  unfold relS at h ⊢
  rw [e]
  exact h
theorem relP_c {μ μ' : Mem} {p : Nat} {T : Nat → Int32} (h : relP μ p T) (e5 : μ'.1 5 p 0 = μ.1 5 p 0) (e8 : ∀ e, e < 4 → μ'.1 8 (4 * p + e) = μ.1 8 (4 * p + e)) (e9 : ∀ a, a < 32 → μ'.1 9 (33 * p + a) = μ.1 9 (33 * p + a) ∧ μ'.2.1 9 (33 * p + a) = μ.2.1 9 (33 * p + a)) : relP μ' p T := by
  obtain ⟨cnt, h1, h2, h3, h4, h5⟩ := h
  exact ⟨cnt, h1, h2, e5.trans h3, fun a ha => relI_c (h4 a ha) (e9 a (by omega)).1 (e9 a (by omega)).2, fun e he => relS_c (h5 e he) (e8 e he)⟩
theorem pd_relP {s cnt : Nat} {μ : Mem} {D : Nat → Int32} (h : PD s (max cnt 1) cnt μ D) (hx : ∀ e, e < 4 → D (476 + 21 * e) = 1 → 1 ≤ cnt) : relP μ s D := by
  obtain ⟨h1, h2, h3, h4, h5, h6, h7, h8, h9⟩ := h
  refine ⟨cnt, h1, h2, h3, fun a ha => ?_, fun e he => ?_⟩
  · have := h4 a ha
    rw [show max cnt 1 = cnt by omega] at this
    exact this
  · rcases h6 e he with ⟨w1, w2⟩ | w
    · exact Or.inl ⟨w2 0 (by decide), w1 0 (by decide)⟩
    · have := hx e he (w 0 (by decide)).2
      rw [show max cnt 1 = cnt by omega] at w
      exact qs_relS w
theorem pd_room {s B cnt : Nat} {μ : Mem} {D : Nat → Int32} (h : PD s B cnt μ D) : ∀ e, e < 4 → ∃ rm : Nat, rm ≤ 8 ∧ μ.1 8 (4 * s + e) 19 = nI rm := fun e he => by
  rcases h.2.2.2.2.2.1 e he with ⟨-, w⟩ | w
  · exact ⟨4, by decide, w 19 (by decide)⟩
  · obtain ⟨k, k1, -, -, k2⟩ := w 16 (by decide)
    exact ⟨k, k1, k2⟩
def OpLd (μ ν : Mem) (fc : Option (RX Int32)) (fr : Option (Int32 × Mem)) : Prop :=
  ∃ x μ' y ν' p', fc = some (x, μ') ∧ fr = some (y, ν') ∧ AnsI x y (ν'.1 26 0 6) ∧ Rel2 p' μ' ν' ∧ KR μ μ' ∧ KC ν ν'
/-- the machine that begins and the row that is laid are alike -/
theorem relM_load {s cnt : Nat} {μ0 μ ν0 ν : Mem} {D : Nat → Int32} (hP : PD s (max cnt 1) cnt μ0 D) (hx : ∀ e, e < 4 → D (476 + 21 * e) = 1 → 1 ≤ cnt) (hB : ResB s μ0 μ) (hN : ResN D ν0 ν) (hs : s < 2) : relP μ s (fun k => ν.1 27 0 k) ∧ relM μ 0 s (fun k => ν.1 27 0 k) := by
  obtain ⟨f1, m1, b8, b10, b13, b17, be⟩ := hB
  obtain ⟨n1, n2, n3, n4, t1, t2, te⟩ := hN
  have rp := pd_relP hP hx
  obtain ⟨h1, h2, h3, h4, h5, h6, h7, h8, h9⟩ := hP
  have keep : ∀ κ a q, κ = 5 ∨ κ = 8 ∨ κ = 9 → μ.1 κ a q = μ0.1 κ a q := fun κ a q z => f1.1 κ a q (fun w => by unfold BgS at w; omega)
  have rp' : relP μ s D := relP_c rp (keep _ _ _ (by omega)) (fun e he => funext fun q => keep _ _ _ (by omega)) (fun a ha => ⟨funext fun q => keep _ _ _ (by omega), by rw [f1.2]⟩)
  have rpT : relP μ s (fun k => ν.1 27 0 k) := relP_T2 (fun k hk => t1 k (by omega) (fun q hq => by omega)) rp'
  refine ⟨rpT, ?_⟩
  have tD : ∀ k, k < 284 → k ≠ 0 → (∀ q, q < 16 → k ≠ 4 + 6 * q + 2 ∧ k ≠ 4 + 6 * q + 3) → ν.1 27 0 k = if k = 2 then -1 else 0 := fun k hk h0 hq => (t1 k (by omega) (fun q h => (hq q h).2)).trans (h8 k hk h0 (fun q h => (hq q h).1))
  have tz : ∀ k, k < 284 → k ≠ 0 → k ≠ 2 → (∀ q, q < 16 → k ≠ 4 + 6 * q + 2 ∧ k ≠ 4 + 6 * q + 3) → ν.1 27 0 k = 0 := fun k hk h0 h2 hq => by rw [tD k hk h0 hq, if_neg h2]
  have o12 : ∀ q, q < 16 → D (4 + 6 * q + 2) = b2 (bt (μ.1 12 0 3) q) := fun q hq => by rw [h7 q hq, m1.2.2.2.1]
  have e10 : μ.1 12 0 10 = μ.1 12 0 3 := b10.trans m1.2.2.2.1.symm
  refine ⟨⟨0, by decide, tz 1 (by decide) (by decide) (by decide) (fun q hq => by omega), m1.1, fun k _ hk => absurd hk (by omega)⟩, ⟨(tD 2 (by decide) (by decide) (fun q hq => by omega)).trans m1.2.2.2.2.2.symm, Or.inl (tD 2 (by decide) (by decide) (fun q hq => by omega))⟩, fun q hq => ?_, fun f hf => ?_, fun a ha => ?_, ⟨0, by decide, tz 3 (by decide) (by decide) (by decide) (fun q hq => by omega), b8, fun k hk => absurd hk (by omega)⟩, fun e he h81 => ?_⟩
  · unfold relPin
    rw [m1.2.1, m1.2.2.1, bt_0, e10]
    have b17q := b17 q hq
    refine ⟨tz _ (by omega) (by omega) (by omega) (fun q' hq' => by omega), tz _ (by omega) (by omega) (by omega) (fun q' hq' => by omega), (t1 _ (by omega) (fun q' hq' => by omega)).trans (o12 q hq), (t2 q hq).trans (o12 q hq), ?_, ?_⟩
    · rw [show 2 * 0 = 0 from rfl, b17q.1]
      exact tz _ (by omega) (by omega) (by omega) (fun q' hq' => by omega)
    · rw [show 2 * 0 + 1 = 1 from rfl, b17q.2, m1.1, Int32.add_zero, ite_self]
      exact tz _ (by omega) (by omega) (by omega) (fun q' hq' => by omega)
  · rw [m1.2.2.2.2.1, bt_0]
    exact tz _ (by omega) (by omega) (by omega) (fun q' hq' => by omega)
  · rw [b13 a ha]
    exact tz _ (by omega) (by omega) (by omega) (fun q' hq' => by omega)
  · obtain ⟨cnt', c1, c2, c3, c4, c5⟩ := rpT
    have S1 := relS_1 (c5 e he) h81
    have d1 : D (476 + 21 * e) = 1 := (t1 (476 + 21 * e) (by omega) (fun q hq => by omega)).symm.trans S1.2.1
    obtain ⟨x1, x2, x3, x4, x5, x6⟩ := te e he d1
    obtain ⟨y1, y2, y3, y4, y5, y6, rm, r1, r2, q0, q1, q2, q3, q4, q5⟩ := be e he
    have k8 : ∀ k, μ0.1 8 (4 * s + e) k = μ.1 8 (4 * s + e) k := fun k => (keep _ _ _ (by omega)).symm
    have td : ∀ k, k < 21 → tN ν (476 + 21 * e + k) = D (476 + 21 * e + k) := fun k hk => t1 _ (by omega) (fun q hq => by omega)
    obtain ⟨E2, pa, hpa, hpa'⟩ := relE_begin (μ := μ) (μ' := μ) (ν := ν) (ν' := ν) (j := e) (l := 4 * s + e) (e := e) (cnt := cnt') S1 ⟨y1.trans x1.symm, Or.inr y1⟩ (fun k hk => by
      rw [y2 k hk, show 560 + 35 * e + (29 + k) = 560 + 35 * e + (29 + k) from rfl, x6 (29 + k) (by omega) (by omega)]
      exact h9 _ (by omega) (by omega)) (by rw [y3, k8]) y4 y5 (by rw [y6, k8]) ((k8 19).symm.trans r2) r1 q0 q1 q2 q3 q4 q5 (x2.trans (td 1 (by decide)).symm) x3 (x4.trans (by rw [td 2 (by decide)])) x5
    refine ⟨?_, pa, cnt', c2, c1, ?_, Or.inr hpa⟩
    · rw [show 4 * 0 + e = e by omega]
      exact E2
    · show ν.1 27 0 (561 + 35 * e) = nI pa
      rw [show 561 + 35 * e = 560 + 35 * e + 1 by omega]
      exact hpa'
