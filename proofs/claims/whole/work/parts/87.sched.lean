/-! THE CYCLE, phase by phase. First: the scheduled levels -/
theorem lp_ind2 {B C : Type} {z : B} {b : B → B} {y : C} {c : C → C} {P : Nat → B → C → Prop} (h0 : ∀ f g, P 0 (b f) (c g)) (hs : ∀ n f g, P n f g → P (n + 1) (b f) (c g)) : ∀ n fu gu, P n (lp z (fu + (n + 1)) b) (lp y (gu + (n + 1)) c) := by
  intro n fu gu
  induction n with
  | zero => rw [show fu + (0 + 1) = fu + 1 from rfl, show gu + (0 + 1) = gu + 1 from rfl, lp_succ, lp_succ]; exact h0 _ _
  | succ n ih => rw [show fu + (n + 1 + 1) = (fu + (n + 1)) + 1 from rfl, show gu + (n + 1 + 1) = (gu + (n + 1)) + 1 from rfl, lp_succ, lp_succ]; exact hs n _ _ ih
/-- an entry of the schedule -/
def sE (μ ν : Mem) (i k : Nat) : Prop := ∃ c q l : Nat, c ≤ 1000000 ∧ q < 16 ∧ l ≤ 1 ∧ tN ν (124 + 3 * k) = nI c ∧ tN ν (125 + 3 * k) = nI q ∧ tN ν (126 + 3 * k) = nI l ∧ μ.1 15 i k = nI (32 * c + 2 * q + l)
theorem sE_congr {μ μ' ν ν' : Mem} {i k : Nat} (h1 : μ'.1 15 i k = μ.1 15 i k) (h2 : ∀ t, 124 + 3 * k ≤ t → t ≤ 126 + 3 * k → tN ν' t = tN ν t) (h : sE μ ν i k) : sE μ' ν' i k := by
  obtain ⟨c, q, l, a1, a2, a3, a4, a5, a6, a7⟩ := h
  exact ⟨c, q, l, a1, a2, a3, (h2 _ (by omega) (by omega)).trans a4, (h2 _ (by omega) (by omega)).trans a5, (h2 _ (by omega) (by omega)).trans a6, h1.trans a7⟩
theorem ent_5 {c q l : Nat} (hc : c ≤ 1000000) (hq : q < 16) (hl : l ≤ 1) : nI (32 * c + 2 * q + l) >>> ((5 : Int32) &&& 31) = nI c := by
  rw [pk_shrN (by omega) _ 5 (by decide)]
  congr 1; omega
theorem ent_1 {c q l : Nat} (hc : c ≤ 1000000) (hq : q < 16) (hl : l ≤ 1) : (nI (32 * c + 2 * q + l) >>> ((1 : Int32) &&& 31)) &&& 15 = nI q := by
  rw [pk_shrN (by omega) _ 1 (by decide), pk_andN (by omega) 4 (by decide)]
  congr 1; omega
theorem ent_0 {c q l : Nat} (hc : c ≤ 1000000) (hq : q < 16) (hl : l ≤ 1) : nI (32 * c + 2 * q + l) &&& 1 = nI l := by
  rw [pk_andN (by omega) 1 (by decide)]
  congr 1; omega
/-- three numbers moved in the model's row -/
def cp3 (a b : Nat) (ν : Mem) : Mem := wI (wI (wI ν 27 0 b (tN ν a)) 27 0 (b + 1) (tN ν (a + 1))) 27 0 (b + 2) (tN ν (a + 2))
def SI (i n : Nat) (μ0 ν0 : Mem) (k m : Nat) (μ ν : Mem) : Prop :=
  (μ.2 = μ0.2 ∧ ν.2 = ν0.2) ∧ (∀ κ a b, ¬ (κ = 12 ∧ a = i ∧ b = 3) → ¬ (κ = 15 ∧ a = i) → μ.1 κ a b = μ0.1 κ a b) ∧ (∀ κ a b, ¬ (κ = 27 ∧ a = 0 ∧ ((124 ≤ b ∧ b < 220) ∨ ∃ q, q < 16 ∧ b = 4 + 6 * q + 2)) → ν.1 κ a b = ν0.1 κ a b) ∧
  m ≤ k ∧ k ≤ n ∧ (∀ t, (t < m ∨ (k ≤ t ∧ t < n)) → sE μ ν i t) ∧ ∀ q, q < 16 → tN ν (4 + 6 * q + 2) = b2 (bt (μ.1 12 i 3) q)
theorem r700 {a : Nat} (h : a < 700) : a < (if 0 = 4 then 7000 else 700) := by rw [if_neg (by decide)]; exact h
theorem cyc_sched {i n : Nat} {c0 : Nat} {μ ν : Mem} (hn : n ≤ 32) (n1 : tN ν 3 = nI n) (n2 : μ.1 12 i 8 = nI n) (hc0 : c0 ≤ 2000000) (c1 : tN ν 1 = nI c0) (c2 : μ.1 12 i 0 = nI c0) (hent : ∀ t, t < n → sE μ ν i t) (hout : ∀ q, q < 16 → tN ν (4 + 6 * q + 2) = b2 (bt (μ.1 12 i 3) q)) (fu gu : Nat) :
    ∃ m μ' ν', fX3_applyScheduled (fu + 33) i μ = some ((), wI μ' 12 i 8 (nI m)) ∧ fX13_applyScheduled (gu + 33) 0 ν = some ((), wI ν' 27 0 3 (nI m)) ∧ m ≤ n ∧ SI i n μ ν n m μ' ν' := by
  unfold fX3_applyScheduled fX13_applyScheduled
  simp only [jn_eq, nm_eq]
  rw [show fu + 33 = (fu + (32 - n)) + (n + 1) by omega, show gu + 33 = (gu + (32 - n)) + (n + 1) by omega]
  refine lp_ind2 (P := fun r (f g : Mem → Int32 → Int32 → Option (Unit × Mem)) => ∀ (k m : Nat) (μ' ν' : Mem), k + r = n → SI i n μ ν k m μ' ν' → ∃ m2 μ2 ν2, f μ' (nI m) (nI k) = some ((), wI μ2 12 i 8 (nI m2)) ∧ g ν' (nI m) (nI k) = some ((), wI ν2 27 0 3 (nI m2)) ∧ m2 ≤ n ∧ SI i n μ ν n m2 μ2 ν2) (fun f g k m μ' ν' hk h => ?_) (fun r f g ih k m μ' ν' hk h => ?_) n (fu + (32 - n)) (gu + (32 - n)) 0 0 μ ν (by omega) ⟨⟨rfl, rfl⟩, fun _ _ _ _ _ => rfl, fun _ _ _ _ => rfl, Nat.le_refl _, by omega, fun t ht => hent t (by omega), hout⟩
  · obtain ⟨⟨h1, h2⟩, hc, hm, hmk, hkn, he, ho⟩ := h
    have hk : k = n := by omega
    subst hk
    have w8 : μ'.1 12 i 8 = nI k := (hc 12 i 8 (by omega) (by omega)).trans n2
    have w3 : ν'.1 27 0 (3 : Int32).toNatClampNeg = nI k := (hm 27 0 3 (by omega)).trans n1
    refine ⟨m, μ', ν', ?_, ?_, hmk, ⟨h1, h2⟩, hc, hm, hmk, hkn, he, ho⟩
    · rw [w8, if_pos (nI_le (Nat.le_refl _) (by omega))]
    · rw [ckI_at (i := 3) (by decide), w3, if_pos (nI_le (Nat.le_refl _) (by omega)), ckI_at (i := 3) (by decide)]
      rfl
  · obtain ⟨⟨h1, h2⟩, hc, hm, hmk, hkn, he, ho⟩ := h
    have w8 : μ'.1 12 i 8 = nI n := (hc 12 i 8 (by omega) (by omega)).trans n2
    have w0 : μ'.1 12 i 0 = nI c0 := (hc 12 i 0 (by omega) (by omega)).trans c2
    have w3 : ν'.1 27 0 (3 : Int32).toNatClampNeg = nI n := (hm 27 0 3 (by omega)).trans n1
    have w1 : ν'.1 27 0 (1 : Int32).toNatClampNeg = nI c0 := (hm 27 0 1 (by omega)).trans c1
    obtain ⟨c, q, l, a1, a2, a3, a4, a5, a6, a7⟩ := he k (Or.inr ⟨Nat.le_refl _, by omega⟩)
    rw [w8, if_neg (nI_ge (show k < n by omega) (by omega)), ckI_nI (show k < 32 by omega) (by decide), nI_clamp (n := k) (by omega), a7, ent_5 a1 a2 a3, w0, ckI_at (i := 3) (by decide), w3, if_neg (nI_ge (show k < n by omega) (by omega)), show (3 : Int32) * nI k = nI (3 * k) from pk_mul 3 k, show (124 : Int32) + nI (3 * k) = nI (124 + 3 * k) from nI_add 124 (3 * k), ckI_nI (r700 (show 124 + 3 * k < 700 by omega)) (by decide), ckI_at (i := 1) (by decide), nI_clamp (n := 124 + 3 * k) (by omega), show ν'.1 27 0 (124 + 3 * k) = nI c from a4, w1]
    by_cases hcc : nI c = nI c0
    · rw [if_neg (fun q => q hcc), if_neg (fun q => q hcc), ent_1 a1 a2 a3, ent_0 a1 a2 a3, show nI (124 + 3 * k) + 1 = nI (124 + 3 * k + 1) from nI_1 _, show nI (124 + 3 * k) + 2 = nI (124 + 3 * k + 2) from nI_add _ 2, ckI_nI (r700 (show 124 + 3 * k + 1 < 700 by omega)) (by decide), ckI_nI (r700 (show 124 + 3 * k + 2 < 700 by omega)) (by decide), nI_clamp (n := 124 + 3 * k + 1) (by omega), nI_clamp (n := 124 + 3 * k + 2) (by omega), show ν'.1 27 0 (124 + 3 * k + 1) = nI q by rw [show 124 + 3 * k + 1 = 125 + 3 * k by omega]; exact a5, show ν'.1 27 0 (124 + 3 * k + 2) = nI l by rw [show 124 + 3 * k + 2 = 126 + 3 * k by omega]; exact a6]
      have ep : fX13_putPin 0 (nI q) 2 (nI l) ν' = some ((), wI ν' 27 0 (4 + 6 * q + 2) (nI l)) := r_putPin (f := 2) (by omega)
      have hlb : nI l = b2 (decide (l = 1)) := nI_b2 (by omega)
      unfold fX3_driveOutside
      rw [nm_eq, bnd_some, nI_1, ep, bnd_some]
      refine ih (k + 1) m _ _ (by omega) ⟨⟨h1, h2⟩, fun κ a b z1 z2 => ?_, fun κ a b z => ?_, by omega, by omega, fun t ht => ?_, fun q' hq' => ?_⟩
      · rw [wI_o (fun y => z1 ⟨y.1, y.2.1, y.2.2⟩)]; exact hc κ a b z1 z2
      · rw [wI_o (fun y => z ⟨y.1, y.2.1, Or.inr ⟨q, a2, y.2.2⟩⟩)]; exact hm κ a b z
      · exact sE_congr (wI_o (by omega)) (fun t' _ _ => tN_o (by omega)) (he t (by omega))
      · rw [wI_same, hlb, bt_put _ (by omega) (by omega), tN_wI]
        by_cases hqq : q' = q
        · rw [if_pos (by omega), if_pos hqq]
        · rw [if_neg (by omega), if_neg hqq]; exact ho q' hq'
    · rw [if_pos hcc, if_pos hcc, ckI_nI (show m < 32 by omega) (by decide), nI_clamp (n := m) (by omega), nI_1, nI_1]
      have e3 : gu + (32 - n) + (n + 1) = (gu + 29) + 1 + 1 + 1 + 1 := by omega
      rw [e3, lp_succ, lp_succ, lp_succ, lp_succ]
      have step : ∀ (x : Nat) (w : Mem), x < 3 → nI (124 + 3 * k) + nI x = nI (124 + 3 * k + x) ∧ ((124 : Int32) + (3 : Int32) * nI m) + nI x = nI (124 + 3 * m + x) := fun x w hx => ⟨nI_add _ _, by rw [show (3 : Int32) * nI m = nI (3 * m) from pk_mul 3 m, show (124 : Int32) + nI (3 * m) = nI (124 + 3 * m) from nI_add 124 (3 * m), nI_add]⟩
      have s0 := step 0 ν' (by decide)
      have s1 := step 1 ν' (by decide)
      have s2 := step 2 ν' (by decide)
      rw [show (0 : Int32) = nI 0 from rfl, if_neg (show ¬ (3 : Int32) ≤ nI 0 by decide), s0.1, s0.2, ckI_nI (r700 (by omega)) (by decide), ckI_nI (r700 (by omega)) (by decide), nI_clamp (by omega), nI_clamp (by omega), nI_1,
        if_neg (show ¬ (3 : Int32) ≤ nI (0 + 1) by decide), s1.1, s1.2, ckI_nI (r700 (by omega)) (by decide), ckI_nI (r700 (by omega)) (by decide), nI_clamp (by omega), nI_clamp (by omega), nI_1,
        if_neg (show ¬ (3 : Int32) ≤ nI (0 + 1 + 1) by decide), s2.1, s2.2, ckI_nI (r700 (by omega)) (by decide), ckI_nI (r700 (by omega)) (by decide), nI_clamp (by omega), nI_clamp (by omega), nI_1,
        if_pos (show (3 : Int32) ≤ nI (0 + 1 + 1 + 1) by decide)]
      have v0 : ν'.1 27 0 (124 + 3 * k + 0) = nI c := a4
      have v1 : ∀ w, (wI ν' 27 0 (124 + 3 * m + 0) w).1 27 0 (124 + 3 * k + 1) = nI q := fun w => by
        rw [wI_o (by omega), show 124 + 3 * k + 1 = 125 + 3 * k by omega]; exact a5
      have v2 : ∀ w w', (wI (wI ν' 27 0 (124 + 3 * m + 0) w) 27 0 (124 + 3 * m + 1) w').1 27 0 (124 + 3 * k + 2) = nI l := fun w w' => by
        rw [wI_o (by omega), wI_o (by omega), show 124 + 3 * k + 2 = 126 + 3 * k by omega]; exact a6
      rw [v0, v1, v2, nI_1]
      refine ih (k + 1) (m + 1) _ _ (by omega) ⟨⟨h1, h2⟩, fun κ a b z1 z2 => ?_, fun κ a b z => ?_, by omega, by omega, fun t ht => ?_, fun q' hq' => ?_⟩
      · rw [wI_o (fun y => z2 ⟨y.1, y.2.1⟩)]; exact hc κ a b z1 z2
      · rw [wI_o (fun y => z ⟨y.1, y.2.1, Or.inl (by omega)⟩), wI_o (fun y => z ⟨y.1, y.2.1, Or.inl (by omega)⟩), wI_o (fun y => z ⟨y.1, y.2.1, Or.inl (by omega)⟩)]; exact hm κ a b z
      · by_cases htm : t = m
        · subst htm
          refine ⟨c, q, l, a1, a2, a3, ?_, ?_, ?_, wI_same⟩
          · rw [tN_o (by omega), tN_o (by omega)]; exact wI_same
          · rw [tN_o (by omega), show 125 + 3 * t = 124 + 3 * t + 1 by omega]; exact wI_same
          · rw [show 126 + 3 * t = 124 + 3 * t + 2 by omega]; exact wI_same
        · exact sE_congr (wI_o (by omega)) (fun t' _ _ => by rw [tN_o (by omega), tN_o (by omega), tN_o (by omega)]) (he t (by omega))
      · rw [tN_o (by omega), tN_o (by omega), tN_o (by omega), wI_o (by omega)]; exact ho q' hq'
