/-! an engine of the machine that is now changes, nothing else does -/
theorem relM_eng {μ μ' : Mem} {p e : Nat} {T T' : Nat → Int32} (he0 : e < 4) (hc : ∀ κ n k, ¬ ((κ = 18 ∨ κ = 21) ∧ n = e) → ¬ ((κ = 19 ∨ κ = 20) ∧ (n = 2 * e ∨ n = 2 * e + 1)) → μ'.1 κ n k = μ.1 κ n k) (hT : ∀ k, k < 700 → ¬ (560 + 35 * e ≤ k ∧ k < 595 + 35 * e) → T' k = T k)
    (hE : μ.1 8 (4 * p + e) 0 = 1 → relE μ' e (T (476 + 21 * e + 19)) (T (476 + 21 * e + 20)) (fun k => T' (560 + 35 * e + k)) ∧ ∃ a cnt : Nat, T 0 = nI cnt ∧ cnt ≤ 32 ∧ T' (561 + 35 * e) = nI a ∧ (cnt = 0 ∨ a < cnt)) (q : relM μ 0 p T) : relM μ' 0 p T' := by
  obtain ⟨⟨c, hc', c1, c2, c3⟩, ⟨o1, o2⟩, hp, hf, hm, ⟨n, hn, n1, n2, n3⟩, he⟩ := q
  have s : ∀ {κ n k : Nat}, κ ≠ 18 → κ ≠ 21 → κ ≠ 19 → κ ≠ 20 → μ'.1 κ n k = μ.1 κ n k := fun {κ n k} a b c d => hc κ n k (by omega) (by omega)
  have t : ∀ k, k < 560 → T' k = T k := fun k hk => hT k (by omega) (by omega)
  refine ⟨⟨c, hc', (t 1 (by omega)).trans c1, (s (by decide) (by decide) (by decide) (by decide)).trans c2, fun k hk hkc q hq => ?_⟩, ?_, fun q hq => ?_, fun f hf' => ?_, fun a' ha' => ?_, ⟨n, hn, (t 3 (by omega)).trans n1, (s (by decide) (by decide) (by decide) (by decide)).trans n2, fun k hk => ?_⟩, fun e' he4 h1 => ?_⟩
  · rw [t _ (by omega), s (by decide) (by decide) (by decide) (by decide)]; exact c3 k hk hkc q hq
  · rw [t 2 (by omega), s (by decide) (by decide) (by decide) (by decide)]; exact ⟨o1, o2⟩
  · have := hp q hq
    unfold relPin at this ⊢
    simp only [t (4 + 6 * q + 0) (by omega), t (4 + 6 * q + 1) (by omega), t (4 + 6 * q + 2) (by omega), t (4 + 6 * q + 3) (by omega), t (4 + 6 * q + 4) (by omega), t (4 + 6 * q + 5) (by omega)]
    have s12 : ∀ k, μ'.1 12 0 k = μ.1 12 0 k := fun k => s (by decide) (by decide) (by decide) (by decide)
    have s17 : ∀ n k, μ'.1 17 n k = μ.1 17 n k := fun n k => s (by decide) (by decide) (by decide) (by decide)
    rw [s12, s12, s12, s12, s12, s17, s17]
    exact this
  · rw [t _ (by omega), s (by decide) (by decide) (by decide) (by decide)]; exact hf f hf'
  · rw [t _ (by omega), s (by decide) (by decide) (by decide) (by decide)]; exact hm a' ha'
  · obtain ⟨c', q, l, b1, b2, b3, b4, b5, b6, b7⟩ := n3 k hk
    exact ⟨c', q, l, b1, b2, b3, (t _ (by omega)).trans b4, (t _ (by omega)).trans b5, (t _ (by omega)).trans b6, (s (by decide) (by decide) (by decide) (by decide)).trans b7⟩
  · rw [s (by decide) (by decide) (by decide) (by decide)] at h1
    rw [t (476 + 21 * e' + 19) (by omega), t (476 + 21 * e' + 20) (by omega)]
    by_cases hh : e' = e
    · subst hh
      rw [show 4 * 0 + e' = e' by omega]
      obtain ⟨E, a, cnt, d1, d2, d3, d4⟩ := hE h1
      exact ⟨E, a, cnt, (t 0 (by omega)).trans d1, d2, d3, d4⟩
    · obtain ⟨E, a, cnt, d1, d2, d3, d4⟩ := he e' he4 h1
      have tk : ∀ k, k < 35 → T' (560 + 35 * e' + k) = T (560 + 35 * e' + k) := fun k hk => hT _ (by omega) (by omega)
      refine ⟨relE_T rfl rfl tk (relE_cg (fun c => hc _ _ _ (by omega) (by omega)) (fun c => hc _ _ _ (by omega) (by omega)) (fun t c _ => hc _ _ _ (by omega) (by omega)) (fun t c _ => hc _ _ _ (by omega) (by omega)) E), a, cnt, (t 0 (by omega)).trans d1, d2, ?_, d4⟩
      rw [show 561 + 35 * e' = 560 + 35 * e' + 1 by omega, tk 1 (by decide), show 560 + 35 * e' + 1 = 561 + 35 * e' by omega]; exact d3
/-! an engine as at first -/
def clamp8 (x : Int32) : Int32 := if (0 : Int32) < (if (8 : Int32) < x then (8 : Int32) else x) then (if (8 : Int32) < x then (8 : Int32) else x) else (0 : Int32)
theorem clamp8_nI {n : Nat} (h : n ≤ 8) : clamp8 (nI n) = nI n := by
  have : ∀ n, n < 9 → clamp8 (nI n) = nI n := by decide +kernel
  exact this n (by omega)
theorem c_reset {j l rm : Nat} {μ : Mem} (hr : μ.1 8 l 19 = nI rm) (hrm : rm ≤ 8) : ∃ μ', fX1_reset j l μ = some ((), μ') ∧ μ'.2 = μ.2 ∧ (∀ κ n k, ¬ (κ = 18 ∧ n = j ∧ k < 10) → ¬ (κ = 19 ∧ (n = 2 * j ∨ n = 2 * j + 1) ∧ k < 3) → μ'.1 κ n k = μ.1 κ n k) ∧
    μ'.1 18 j 0 = μ.1 8 l 1 ∧ (∀ k, k < 10 → k ≠ 0 → k ≠ 6 → k ≠ 9 → μ'.1 18 j k = 0) ∧ μ'.1 18 j 6 = 32 ∧ μ'.1 18 j 9 = μ.1 8 l 4 - 256 ∧
    μ'.1 19 (2 * j) 0 = 0 ∧ μ'.1 19 (2 * j) 1 = nI rm ∧ μ'.1 19 (2 * j) 2 = 0 ∧ μ'.1 19 (2 * j + 1) 0 = 0 ∧ μ'.1 19 (2 * j + 1) 1 = nI (8 - rm) ∧ μ'.1 19 (2 * j + 1) 2 = 0 := by
  have e8 : (8 : Int32) - nI rm = nI (8 - rm) := pk_sub (a := 8) hrm
  have cl : ∀ x, (if (0 : Int32) < (if (8 : Int32) < x then (8 : Int32) else x) then (if (8 : Int32) < x then (8 : Int32) else x) else (0 : Int32)) = clamp8 x := fun _ => rfl
  unfold fX1_reset fX7_clear fX8_outputRoom
  simp only [nm_eq, bnd_some, cl]
  refine ⟨_, rfl, rfl, fun κ n k a b => ?_, ?_, fun k hk h0 h6 h9 => ?_, ?_, ?_, ?_, ?_, ?_, ?_, ?_, ?_⟩
  · rw [wI_o (by omega), wI_o (by omega), wI_o (by omega), wI_o (by omega), wI_o (by omega), wI_o (by omega), wI_o (by omega), wI_o (by omega), wI_o (by omega), wI_o (by omega), wI_o (by omega), wI_o (by omega), wI_o (by omega), wI_o (by omega), wI_o (by omega), wI_o (by omega)]
  · simp [wI_at]
  · have : k = 1 ∨ k = 2 ∨ k = 3 ∨ k = 4 ∨ k = 5 ∨ k = 7 ∨ k = 8 := by omega
    rcases this with rfl | rfl | rfl | rfl | rfl | rfl | rfl <;> simp [wI_at]
  · simp [wI_at]
  · simp [wI_at]
  · simp [wI_at]
  · simp [wI_at, hr, clamp8_nI hrm]
  · simp [wI_at]
  · simp [wI_at]
  · simp [wI_at, hr, e8, clamp8_nI (show 8 - rm ≤ 8 by omega)]
  · simp [wI_at]
theorem m_begin {e : Nat} {ν : Mem} (he : e < 4) (fu : Nat) : ∃ ν', fX13_begin (fu + 29) 0 (nI e) ν = some ((), ν') ∧ ν'.2 = ν.2 ∧ (∀ κ n k, ¬ (κ = 27 ∧ n = 0 ∧ 561 + 35 * e ≤ k ∧ k < 589 + 35 * e) → ν'.1 κ n k = ν.1 κ n k) ∧
    tN ν' (560 + 35 * e + 1) = tN ν (476 + 21 * e + 1) ∧ tN ν' (560 + 35 * e + 7) = 32 ∧ tN ν' (560 + 35 * e + 10) = tN ν (476 + 21 * e + 2) - 256 ∧ ∀ k, 1 < k → k < 29 → k ≠ 7 → k ≠ 10 → tN ν' (560 + 35 * e + k) = 0 := by
  unfold fX13_begin
  simp only [jn_eq, nm_eq]
  refine lp_ind (P := fun n (f : Mem → Int32 → Option (Unit × Mem)) => ∀ (x : Nat) (ν1 : Mem), 1 ≤ x → x + n = 29 → ν1.2 = ν.2 → (∀ κ n k, ¬ (κ = 27 ∧ n = 0 ∧ 561 + 35 * e ≤ k ∧ k < 560 + 35 * e + x) → ν1.1 κ n k = ν.1 κ n k) → (∀ k, 1 ≤ k → k < x → tN ν1 (560 + 35 * e + k) = 0) →
      ∃ ν', f ν1 (nI x) = some ((), ν') ∧ ν'.2 = ν.2 ∧ (∀ κ n k, ¬ (κ = 27 ∧ n = 0 ∧ 561 + 35 * e ≤ k ∧ k < 589 + 35 * e) → ν'.1 κ n k = ν.1 κ n k) ∧
    tN ν' (560 + 35 * e + 1) = tN ν (476 + 21 * e + 1) ∧ tN ν' (560 + 35 * e + 7) = 32 ∧ tN ν' (560 + 35 * e + 10) = tN ν (476 + 21 * e + 2) - 256 ∧ ∀ k, 1 < k → k < 29 → k ≠ 7 → k ≠ 10 → tN ν' (560 + 35 * e + k) = 0)
    (fun f x ν1 h1 hx h2 hc hz => ?_) (fun n f ih x ν1 h1 hx h2 hc hz => ?_) 28 fu 1 ν (by decide) rfl rfl (fun _ _ _ _ => rfl) (fun k a b => absurd b (by omega))
  · have : x = 29 := by omega
    subst this
    have es1 : fX13_setting 0 (nI e) 1 ν1 = some (tN ν (476 + 21 * e + 1), ν1) := by
      have : fX13_setting 0 (nI e) 1 ν1 = _ := r_setting (f := 1) (by omega)
      rw [this, show tN ν1 (476 + 21 * e + 1) = tN ν (476 + 21 * e + 1) from hc 27 0 _ (by omega)]
    have st1 : ∀ v ν1, fX13_set 0 (nI e) 1 v ν1 = some ((), wI ν1 27 0 (560 + 35 * e + (0 + 1)) v) := fun v ν1 => m_setE (k := 0) he (by decide)
    have st7 : ∀ v ν1, fX13_set 0 (nI e) 7 v ν1 = some ((), wI ν1 27 0 (560 + 35 * e + (6 + 1)) v) := fun v ν1 => m_setE (k := 6) he (by decide)
    have st10 : ∀ v ν1, fX13_set 0 (nI e) 10 v ν1 = some ((), wI ν1 27 0 (560 + 35 * e + (9 + 1)) v) := fun v ν1 => m_setE (k := 9) he (by decide)
    have es2 : ∀ ν2 : Mem, tN ν2 (476 + 21 * e + 2) = tN ν (476 + 21 * e + 2) → fX13_setting 0 (nI e) 2 ν2 = some (tN ν (476 + 21 * e + 2), ν2) := fun ν2 h => by
      have : fX13_setting 0 (nI e) 2 ν2 = _ := r_setting (f := 2) (by omega)
      rw [this, h]
    rw [if_pos (by decide), es1, bnd_some, st1, bnd_some, st7, bnd_some, es2 _ (by rw [tN_o (by omega), tN_o (by omega)]; exact hc 27 0 _ (by omega)), bnd_some, st10, bnd_some]
    refine ⟨_, rfl, h2, fun κ n k a => ?_, ?_, ?_, wI_same, fun k a b c d => ?_⟩
    · rw [wI_o (by omega), wI_o (by omega), wI_o (by omega)]; exact hc κ n k (by omega)
    · rw [tN_o (by omega), tN_o (by omega)]; exact wI_same
    · rw [tN_o (by omega)]; exact wI_same
    · rw [tN_o (by omega), tN_o (by omega), tN_o (by omega)]; exact hz k (by omega) b
  · obtain ⟨y, rfl⟩ : ∃ y, x = y + 1 := ⟨x - 1, by omega⟩
    rw [if_neg (show ¬ (29 : Int32) ≤ nI (y + 1) from nI_ge (b := 29) (by omega) (by decide)), m_setE he (by omega), bnd_some, nI_1]
    refine ih (y + 1 + 1) _ (by omega) (by omega) h2 (fun κ n k a => ?_) (fun k a b => ?_)
    · rw [wI_o (by omega)]; exact hc κ n k (by omega)
    · rw [tN_wI]
      by_cases hk : k = y + 1
      · rw [if_pos (by omega)]
      · rw [if_neg (by omega)]; exact hz k a (by omega)
/-- the two, as at first, are alike -/
theorem relE_begin {μ μ' ν ν' : Mem} {j l e cnt : Nat} (hS : relS1 μ l cnt (fun k => tN ν (476 + 21 * e + k))) (h10 : μ'.1 18 j 10 = tN ν' (560 + 35 * e + 0) ∧ (μ'.1 18 j 10 = 0 ∨ μ'.1 18 j 10 = 1)) (h21 : ∀ k, k < 6 → tN ν' (560 + 35 * e + (29 + k)) = μ'.1 21 j k)
    (a0 : μ'.1 18 j 0 = μ.1 8 l 1) (az : ∀ k, k < 10 → k ≠ 0 → k ≠ 6 → k ≠ 9 → μ'.1 18 j k = 0) (a6 : μ'.1 18 j 6 = 32) (a9 : μ'.1 18 j 9 = μ.1 8 l 4 - 256) {rm : Nat} (hr : μ.1 8 l 19 = nI rm) (hrm : rm ≤ 8)
    (q0 : μ'.1 19 (2 * j) 0 = 0) (q1 : μ'.1 19 (2 * j) 1 = nI rm) (q2 : μ'.1 19 (2 * j) 2 = 0) (q3 : μ'.1 19 (2 * j + 1) 0 = 0) (q4 : μ'.1 19 (2 * j + 1) 1 = nI (8 - rm)) (q5 : μ'.1 19 (2 * j + 1) 2 = 0)
    (b1 : tN ν' (560 + 35 * e + 1) = tN ν (476 + 21 * e + 1)) (b7 : tN ν' (560 + 35 * e + 7) = 32) (b10 : tN ν' (560 + 35 * e + 10) = tN ν (476 + 21 * e + 2) - 256) (bz : ∀ k, 1 < k → k < 29 → k ≠ 7 → k ≠ 10 → tN ν' (560 + 35 * e + k) = 0) :
    relE μ' j (tN ν (476 + 21 * e + 19)) (tN ν (476 + 21 * e + 20)) (fun k => tN ν' (560 + 35 * e + k)) ∧ ∃ a : Nat, a < cnt ∧ tN ν' (560 + 35 * e + 1) = nI a := by
  obtain ⟨_, _, ⟨n, hn, s1, s1'⟩, ⟨m, _, _, s2, s2'⟩, _, _, _, _, _, _, _, _, _, _, _, ⟨rm', hrm', r1, r2, r3⟩⟩ := hS
  have er : rm' = rm := nI_inj (by omega) (by omega) (r3.symm.trans hr)
  subst er
  refine ⟨⟨h10.1.symm, (show tN ν' (560 + 35 * e + 0) = 0 ∨ tN ν' (560 + 35 * e + 0) = 1 by rw [← h10.1]; exact h10.2), fun k hk => ?_, h21, ⟨0, by decide, bz 6 (by decide) (by decide) (by decide) (by decide)⟩, ⟨32, by decide, b7⟩, ⟨0, by decide, bz 8 (by decide) (by decide) (by decide) (by decide)⟩, ⟨0, by decide, bz 9 (by decide) (by decide) (by decide) (by decide)⟩,
    ⟨0, 0, rm', by omega, hrm', by decide, q0, q1, q2, bz 11 (by decide) (by decide) (by decide) (by decide), r1, fun k hk => absurd hk (by omega)⟩, ⟨0, 0, 8 - rm', by omega, by omega, by decide, q3, q4, q5, bz 12 (by decide) (by decide) (by decide) (by decide), r2, fun k hk => absurd hk (by omega)⟩⟩, n, hn, b1.trans s1⟩
  by_cases h0 : k = 0
  · subst h0; rw [a0, s1']; exact b1.trans s1
  · by_cases h6 : k = 6
    · subst h6; rw [a6]; exact b7
    · by_cases h9 : k = 9
      · subst h9; rw [a9, s2', ← (show tN ν (476 + 21 * e + 2) = nI m from s2)]; exact b10
      · rw [az k hk h0 h6 h9]; exact bz (k + 1) (by omega) (by omega) (by omega) (by omega)
/-! promise 30: restart -/
theorem op_restart {p : Nat} {μ ν : Mem} (h : Rel2 p μ ν) (x : Int32) (fu gu : Nat) : Op p μ ν (fX12_restart (fu + 5) 0 x μ) (fX13_restart (gu + 701) 0 x ν) := by
  have h0 : Rel2 p μ (wI ν 26 0 6 0) := h
  obtain ⟨μ1, ν1, e1, e2, h1, k1, k2, ht, _, hr, hu, hw⟩ := both_remember h0
  unfold fX12_restart fX13_restart
  simp only [nm_eq]
  rcases eng2_cases h0 x with ⟨a, b⟩ | ⟨e, he, rfl, a, b, c⟩
  · refine op_bad h (k := 1) ?_ ?_
    · rw [a, bndX_inl]
    · rw [b, bnd_some, if_neg nn0, m_raise, bnd_some, wI_wI]; rfl
  · have s8 : μ1.1 8 (4 * p + e) 0 = 1 := (hu 8 _ 0 (by decide) (by decide) (Or.inl rfl)).trans c
    obtain ⟨cnt, hcnt, t0, h5, _, hS⟩ := h1.2.1
    have S1 := relS_1 (hS e he) s8
    obtain ⟨rm, hrm, r1, r2, r3⟩ := S1.2.2.2.2.2.2.2.2.2.2.2.2.2.2.2
    have E := rel2_engine h1 he s8
    obtain ⟨μ2, m1, m2, m3, m4, m5, m6, m7, q0, q1, q2, q3, q4, q5⟩ := c_reset (j := e) (l := 4 * p + e) (μ := μ1) r3 hrm
    obtain ⟨ν2, n1, n2, n3, n4, n5, n6, n7⟩ := m_begin (ν := ν1) he (gu + 672)
    have n1' : fX13_begin (gu + 701) 0 (nI e) ν1 = some ((), ν2) := n1
    have o1 : fX13_of 0 (nI e) 1 ν1 = some (μ1.1 18 e 0, ν1) := by
      have : fX13_of 0 (nI e) 1 ν1 = _ := r_of (f := 1) (by omega)
      rw [this, show tN ν1 (560 + 35 * e + 1) = μ1.1 18 e 0 from E.2.2.1 0 (by decide)]
    have hp4 : μ1.2.1 0 0 4 = p := h1.1.2.1
    rw [a, bndX_inr, ckB_ok (by omega), b, bnd_some, if_pos ne10, e1, e2, bnd_some, bnd_some, hp4, ckB_ok h.1.1, ckI_nI he (by decide), nI_clamp (by omega), m1, bnd_some, o1, bnd_some, n1', bnd_some]
    have z10 : μ2.1 18 e 10 = μ1.1 18 e 10 := m3 _ _ _ (by omega) (by omega)
    obtain ⟨E2, pa, hpa, hpa'⟩ := relE_begin (μ := μ1) (μ' := μ2) (ν := ν1) (ν' := ν2) (j := e) S1 (by
      rw [z10, show tN ν2 (560 + 35 * e + 0) = tN ν1 (560 + 35 * e + 0) from n3 27 0 _ (by omega)]
      exact ⟨E.1.symm, rel2_z h1 (by omega)⟩) (fun k hk => by
      rw [show tN ν2 (560 + 35 * e + (29 + k)) = tN ν1 (560 + 35 * e + (29 + k)) from n3 27 0 _ (by omega), m3 21 e k (by omega) (by omega)]
      exact E.2.2.2.1 k hk) m4 m5 m6 m7 r3 hrm q0 q1 q2 q3 q4 q5 n4 n5 n6 n7
    refine ⟨.inr (μ1.1 18 e 0), μ2, μ1.1 18 e 0, ν2, rfl, rfl, ⟨(n3 26 0 6 (by omega)).trans ht, rfl⟩, ?_, kr_trans k1 ⟨fun κ n k a b => m3 κ n k (by omega) (by omega), fun κ n k a => by rw [m2]⟩, kc_trans kc_26 (kc_trans k2 ⟨fun κ n k a => n3 κ n k (by omega), fun κ n k _ => by rw [n2]⟩)⟩
    refine rel2_upd h1 (fun κ n k hk hn => m3 κ n k ?_ ?_) (by rw [m2]) (fun n k _ => n3 _ _ _ (by omega)) (fun n k => n3 _ _ _ (by omega)) (fun n k hn => n3 _ _ _ (by omega)) (fun k hk => n3 _ _ _ (by omega)) ?_ (fun j hj => ?_) (fun j hj => ?_)
    · rintro ⟨rfl, rfl, _⟩
      exact hn.elim (by decide) (fun q => q (show n / 4 = 0 by omega))
    · rintro ⟨rfl, hn2, _⟩
      exact hn.elim (by decide) (fun q => q (show n / 8 = 0 by omega))
    · refine relM_eng he (fun κ n k a b => m3 κ n k (by omega) (by omega)) (fun k hk a => n3 27 0 k (by omega)) (fun _ => ⟨E2, pa, cnt, t0, hcnt, ?_, Or.inr hpa⟩) (rel2_now h1)
      show tN ν2 (561 + 35 * e) = _
      rw [show 561 + 35 * e = 560 + 35 * e + 1 by omega]; exact hpa'
    · by_cases hj0 : j = 2 * e
      · subst hj0; exact ⟨0, 0, rm, by decide, by decide, hrm, q0, q1, q2⟩
      · by_cases hj1 : j = 2 * e + 1
        · subst hj1; exact ⟨0, 0, 8 - rm, by decide, by decide, by omega, q3, q4, q5⟩
        · obtain ⟨s, hh, r, a, b, c, d1, d2, d3⟩ := rel2_okQ h1 (show j < 104 by omega)
          have w : ∀ k, μ2.1 19 j k = μ1.1 19 j k := fun k => m3 _ _ _ (by omega) (by omega)
          exact ⟨s, hh, r, a, b, c, (w 0).trans d1, (w 1).trans d2, (w 2).trans d3⟩
    · rw [m3 _ _ _ (by omega) (by omega)]; exact rel2_z h1 (by omega)
