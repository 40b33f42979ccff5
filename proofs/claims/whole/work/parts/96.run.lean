/-! many cycles. Frames that go on -/
def FD (i : Nat) (μ μ' : Mem) : Prop := ((∀ κ n k, ¬ (κ = 22 ∧ n = 0 ∧ k = 1) → μ'.2.1 κ n k = μ.2.1 κ n k) ∧ μ'.2.2 = μ.2.2 ∧ (μ'.2.1 22 0 1 = μ.2.1 22 0 1 ∨ μ'.2.1 22 0 1 = i)) ∧ ∀ κ n k, κ ≠ 22 → ¬ own i κ n → μ'.1 κ n k = μ.1 κ n k
theorem fd_refl {i : Nat} {μ : Mem} : FD i μ μ := ⟨⟨fun _ _ _ _ => rfl, rfl, Or.inl rfl⟩, fun _ _ _ _ _ => rfl⟩
theorem fd_step {i : Nat} {μ μ' μ'' : Mem} (h : FD i μ μ') (h2 : FC i μ' μ'') : FD i μ μ'' := by
  obtain ⟨⟨a1, a2, a3⟩, a4⟩ := h
  obtain ⟨b1, b2⟩ := h2
  refine ⟨⟨fun κ n k q => ?_, ?_, Or.inr ?_⟩, fun κ n k q1 q2 => (b2 κ n k q1 q2).trans (a4 κ n k q1 q2)⟩
  · rw [b1, wR_o q]; exact a1 κ n k q
  · rw [b1]; exact a2
  · rw [b1]; exact wR_same
theorem fm_refl {ν : Mem} : FM ν ν := ⟨rfl, fun _ _ _ _ _ _ _ => rfl, fun _ _ => rfl⟩
theorem fm_trans {ν ν' ν'' : Mem} (h : FM ν ν') (h2 : FM ν' ν'') : FM ν ν'' := ⟨h2.1.trans h.1, fun κ n k a b c d => (h2.2.1 κ n k a b c d).trans (h.2.1 κ n k a b c d), fun k hk => (h2.2.2 k hk).trans (h.2.2 k hk)⟩
theorem relM_le {B C : Nat} {μ : Mem} {i p : Nat} {T : Nat → Int32} (hBC : B ≤ C) (h : relMb B μ i p T) : relMb C μ i p T := by
  obtain ⟨⟨c, hc, r⟩, q⟩ := h
  exact ⟨⟨c, by omega, r⟩, q⟩
theorem relM_clk {B C c : Nat} {μ : Mem} {i p : Nat} {T : Nat → Int32} (hB : B < 2 ^ 31) (hc : c ≤ C) (hC : C < 2 ^ 31) (h0 : μ.1 12 i 0 = nI c) (h : relMb B μ i p T) : relMb C μ i p T := by
  obtain ⟨⟨c', hc', r1, r2, r3⟩, q⟩ := h
  have : c' = c := nI_inj (by omega) (by omega) (r2.symm.trans h0)
  subst this
  exact ⟨⟨c', hc, r1, r2, r3⟩, q⟩
/-- the relation of the two objects, where the machine i (0: now; 1: the copy) has gone on -/
theorem rel2_upd2 {p i : Nat} {μ μ' ν ν' : Mem} (hi : i < 2) (h : Rel2 p μ ν) (hF : FD i μ μ') (hik : okM i μ')
    (h26 : ∀ n k, ¬ (n = 0 ∧ (k = 6 ∨ (16 ≤ k ∧ k ≤ 19))) → ν'.1 26 n k = ν.1 26 n k) (h28 : ∀ n k, 6 < n → ν'.1 28 n k = ν.1 28 n k) (h27 : ∀ n k, n ≠ 0 → n ≠ 2 → ν'.1 27 n k = ν.1 27 n k) (hT : ∀ k, (k = 0 ∨ (284 ≤ k ∧ k < 560)) → ν'.1 27 0 k = ν.1 27 0 k)
    (hM : relM μ' 0 p (fun k => ν'.1 27 0 k)) : Rel2 p μ' ν' := by
  obtain ⟨⟨r1, r2, r3, r4, r5, r6⟩, hP, _, ⟨n, hn, b1, b2, b3⟩, hE, ⟨u, e, hu, he, u1, u2, e1, hist⟩, hS, hk3, hk9, hq0, hz0⟩ := h
  obtain ⟨⟨hr, _, hr1⟩, hc⟩ := hF
  have no : ∀ κ n, wd κ = 0 → ¬ own i κ n := fun κ n q z => z.1 q
  have kw : ∀ {a : Nat}, a ≠ 22 → wd a = 0 → μ'.1 a = μ.1 a := fun h0 hw => funext fun b => funext fun c => hc _ b c h0 (no _ _ hw)
  have w0 := kw (a := 0) (by decide) rfl
  have w5 := kw (a := 5) (by decide) rfl
  have w8 := kw (a := 8) (by decide) rfl
  have w9 := kw (a := 9) (by decide) rfl
  have w1 := kw (a := 1) (by decide) rfl
  have r9 : μ'.2.1 9 = μ.2.1 9 := funext fun b => funext fun c => hr _ b c (by omega)
  have r3' : μ'.2.1 3 = μ.2.1 3 := funext fun b => funext fun c => hr _ b c (by omega)
  have h8 : ∀ e', e' < 4 → μ'.1 8 (4 * p + e') 0 = μ.1 8 (4 * p + e') 0 := fun e' _ => by rw [w8]
  have hp : ∀ {T : Nat → Int32}, relP μ p T → relP μ' p T := fun q => relP_congr w5 w8 w9 r9 q
  have n22 : ∀ κ, wd κ ≠ 0 → κ ≠ 22 := fun κ q z => q (by rw [z]; rfl)
  have st : ∀ {m : Nat}, m ≠ i → Same μ μ' m m := fun hm => same_own fun κ n k hw hn => hc κ n k (n22 κ hw) (fun z => hm (hn.symm.trans z.2))
  have t4 : ∀ {o : Nat} (j : Nat), rowT ν' 4 o j = rowT ν 4 o j := fun j => h27 _ _ (by decide) (by decide)
  have t3 : ∀ (j : Nat), rowT ν' 3 0 j = rowT ν 3 0 j := fun j => h27 _ _ (by decide) (by decide)
  refine ⟨⟨r1, (hr _ _ _ (by omega)).trans r2, (hr _ _ _ (by omega)).trans r3, (hr _ _ _ (by omega)).trans r4, ?_, ?_⟩, relP_T2 hT (hp hP), hM, ⟨n, hn, by rw [w0]; exact b1, (h26 _ _ (by omega)).trans b2, fun k hk => ?_⟩, ?_, ⟨u, e, hu, he, by rw [w0]; exact u1, (h26 _ _ (by omega)).trans u2, by rw [w0]; exact e1, fun k hk => ?_⟩, ?_, ?_, ?_, fun j hj => ?_, fun j hj => ?_⟩
  · rcases hr1 with h | h <;> rw [h]
    · exact r5
    · omega
  · rw [hr _ _ _ (by omega)]; exact r6
  · rw [h28 _ _ (by decide), w1]; exact b3 k hk
  · rw [w0, h26 _ _ (by omega)]; exact hE
  · obtain ⟨q1, q2⟩ := hist k hk
    exact ⟨relP_T (fun j _ => t4 j) (hp q1), relM_T (fun j _ => t4 j) (relM_same (st (by omega)) h8 q2)⟩
  · rw [w0, h26 _ _ (by omega)]
    exact hS.imp id fun ⟨a, b, c, d⟩ => ⟨a, b, relP_T (fun j _ => t3 j) (hp c), relM_T (fun j _ => t3 j) (relM_same (st (by omega)) h8 d)⟩
  · rw [r3']; exact hk3
  · rw [r9]; exact hk9
  · by_cases hm : j / 8 = i
    · have := hik.1 (j % 8) (by omega)
      rw [show 8 * i + j % 8 = j by omega] at this
      exact this
    · obtain ⟨s, hh, r, a, b, c, d1, d2, d3⟩ := hq0 j hj
      have o : ∀ {k : Nat}, μ'.1 19 j k = μ.1 19 j k := hc 19 j _ (by decide) (fun z => hm z.2)
      exact ⟨s, hh, r, a, b, c, o.trans d1, o.trans d2, o.trans d3⟩
  · by_cases hm : j / 4 = i
    · have := hik.2 (j % 4) (by omega)
      rw [show 4 * i + j % 4 = j by omega] at this
      exact this
    · rw [hc 18 j 10 (by decide) (fun z => hm z.2)]
      exact hz0 j hj
theorem cy_now {p : Nat} {μ ν : Mem} (h : Rel2 p μ ν) : CY p 0 μ ν := ⟨⟨h.1.1, by decide, h.1.2.2.2.1⟩, h.2.1, relM_le (by decide) h.2.2.1, fun t ht => rel2_okQ h (by omega), fun t ht => rel2_z h (by omega)⟩
theorem rel2_clk {p : Nat} {μ ν : Mem} (h : Rel2 p μ ν) : ∃ c : Nat, c ≤ 1000000 ∧ tN ν 1 = nI c ∧ μ.1 12 0 0 = nI c := by
  obtain ⟨c, hc, a, b, _⟩ := h.2.2.1.1
  exact ⟨c, hc, a, b⟩
theorem m_done {ν : Mem} (fu : Nat) : fX13_doneByAll (fu + 5) 0 ν = some (msM ν, ν) := by
  unfold fX13_doneByAll
  simp only [jn_eq, nm_eq]
  rw [lp_succ, lp_succ, lp_succ, lp_succ, lp_succ]
  have o : ∀ e, e < 4 → fX13_of 0 (nI e) 29 ν = some (tN ν (560 + 35 * e + 29), ν) := fun e he => r_of (f := 29) (by omega)
  rw [show (0 : Int32) = nI 0 from rfl, if_neg (show ¬ (4 : Int32) ≤ nI 0 by decide), o 0 (by decide), bnd_some, nI_1, if_neg (show ¬ (4 : Int32) ≤ nI (0 + 1) by decide), o (0 + 1) (by decide), bnd_some, nI_1, if_neg (show ¬ (4 : Int32) ≤ nI (0 + 1 + 1) by decide), o (0 + 1 + 1) (by decide), bnd_some, nI_1, if_neg (show ¬ (4 : Int32) ≤ nI (0 + 1 + 1 + 1) by decide), o (0 + 1 + 1 + 1) (by decide), bnd_some, nI_1, if_pos (show (4 : Int32) ≤ nI (0 + 1 + 1 + 1 + 1) by decide)]
  have : nI 0 + tN ν (560 + 35 * 0 + 29) + tN ν (560 + 35 * (0 + 1) + 29) + tN ν (560 + 35 * (0 + 1 + 1) + 29) + tN ν (560 + 35 * (0 + 1 + 1 + 1) + 29) = msM ν := by
    show (0 : Int32) + tN ν 589 + tN ν 624 + tN ν 659 + tN ν 694 = _
    rw [Int32.zero_add]; rfl
  rw [this]
/-! promise 34: run. Where only one kind of exception is thrown, the law counts it as 1 -/
def AnsI (x : Nat ⊕ Int32) (y t : Int32) : Prop := match x with
  | .inl k => k = 2 ∧ t = 1
  | .inr v => t = 0 ∧ y = v
def OpI (p : Nat) (μ ν : Mem) (fc : Option (RX Int32)) (fr : Option (Int32 × Mem)) : Prop :=
  ∃ x μ' y ν', fc = some (x, μ') ∧ fr = some (y, ν') ∧ AnsI x y (ν'.1 26 0 6) ∧ Rel2 p μ' ν' ∧ KR μ μ' ∧ KC ν ν'
theorem bad_le {x : Int32} {n : Nat} (hn : n + 1 < 2 ^ 31) (h : x < 0 ∨ nI (n + 1) ≤ x) : x < 0 ∨ ¬ x ≤ nI n := h.imp id fun h2 h3 => by
  rw [Int32.le_iff_toInt_le, nI_toInt (by omega)] at h2 h3
  omega
theorem kc_fm {ν ν' : Mem} (h : FM ν ν') : KC ν ν' := ⟨fun κ n k hk => h.2.1 κ n k (by omega) (by omega) (by omega) (by omega), fun κ n k _ => by rw [h.1]⟩
theorem kr_fd {i : Nat} {μ μ' : Mem} (h : FD i μ μ') : KR μ μ' := ⟨fun κ n k h1 h2 => h.2 κ n k (by omega) (fun z => z.1 (by unfold wd; rw [if_neg (by omega), if_neg (by omega), if_neg (by omega), if_neg (by omega)])), fun κ n k h1 => h.1.1 κ n k (by omega)⟩
theorem kr_trans {μ μ' μ'' : Mem} (h : KR μ μ') (h2 : KR μ' μ'') : KR μ μ'' := ⟨fun κ n k a b => (h2.1 κ n k a b).trans (h.1 κ n k a b), fun κ n k a => (h2.2 κ n k a).trans (h.2 κ n k a)⟩
theorem kc_trans {μ μ' μ'' : Mem} (h : KC μ μ') (h2 : KC μ' μ'') : KC μ μ'' := ⟨fun κ n k a => (h2.1 κ n k a).trans (h.1 κ n k a), fun κ n k a => (h2.2 κ n k a).trans (h.2 κ n k a)⟩
theorem kc_26 {ν : Mem} {k : Nat} {v : Int32} (hk41 : k ≠ 41 := by decide) : KC ν (wI ν 26 0 k v) := ⟨fun κ n k hk => wI_o (by omega), fun _ _ _ _ => rfl⟩
theorem op_run {p : Nat} {μ ν : Mem} (h : Rel2 p μ ν) (x : Int32) (fu gu : Nat) : OpI p μ ν (fX12_run (fu + 1001) 0 x μ) (fX13_run (gu + 1001) 0 x ν) := by
  have h0 : Rel2 p μ (wI ν 26 0 6 0) := h
  obtain ⟨μ1, ν1, e1, e2, h1, k1, k2, ht, _, hr, hu, hw⟩ := both_remember h0
  obtain ⟨c, hc, cT, cC⟩ := rel2_clk h
  unfold fX12_run fX13_run
  simp only [jn_eq, nm_eq]
  rcases ix_cases x (n := 1001) (by decide) with hx | ⟨N, hN, rfl⟩
  · rw [show (1000 : Int32) = nI 1000 from rfl, r_bad (by decide) hx, bnd_some, if_neg nn0, m_raise, bnd_some, wI_wI]
    refine ⟨.inl 2, μ, 0, wI ν 26 0 6 1, ?_, rfl, ⟨rfl, rfl⟩, h, kr_nil, kc_26⟩
    rcases bad_le (n := 1000) (by decide) hx with h1 | h1
    · rw [if_pos h1]
    · by_cases h2 : x < 0
      · rw [if_pos h2]
      · rw [if_neg h2, if_neg h1]
  · rw [show (1000 : Int32) = nI 1000 from rfl, r_ok (by omega) (by decide), bnd_some, if_pos ne10, if_neg (nI_pos (by omega)), if_pos (nI_le (show N ≤ 1000 by omega) (by decide)), ckI_at (i := 1) (by decide), show (wI ν 26 0 6 0).1 27 0 (1 : Int32).toNatClampNeg = nI c from cT, cC, nI_add]
    by_cases hend : c + N ≤ 1000000
    · have hle : nI (c + N) ≤ (1000000 : Int32) := nI_le (b := 1000000) hend (by decide)
      have e1' : fX12_remember (fu + 1001) 0 μ = some ((), μ1) := e1 (fu + 996)
      have e2' : fX13_record (gu + 1001) 0 (wI ν 26 0 6 0) = some ((), ν1) := e2 (gu + 300)
      rw [if_pos hle, if_pos hle, e1', bnd_some, e2', bnd_some, show gu + 1001 = (gu + 996) + 5 by omega, m_done, bnd_some, show (gu + 996) + 5 = gu + 1001 by omega]
      have cC1 : μ1.1 12 0 0 = nI c := (hu 12 0 0 (by decide) (by decide) (Or.inr rfl)).trans cC
      have main : ∃ d μ2 ν2, lp (fun (_ : Mem) (_ : Int32) (_ : Int32) => (none : Option (RX Int32))) (fu + 1001) (fun (j45 : Mem → Int32 → Int32 → Option (RX Int32)) (μ5 : Mem) (x6 : Int32) (x7 : Int32) => if nI N ≤ x7 then some (.inr x6, μ5) else bnd (fX9_simulateCycle (fu + 1001) 0 0 μ5) fun x10 μ9 => j45 μ9 (x6 + x10) (x7 + (1 : Int32))) μ1 0 0 = some (.inr d, μ2) ∧
          lp (fun (_ : Mem) (_ : Int32) (_ : Int32) => (none : Option (Int32 × Mem))) (gu + 1001) (fun (j50 : Mem → Int32 → Int32 → Option (Int32 × Mem)) (μ6 : Mem) (x7 : Int32) (x8 : Int32) => if nI N ≤ x8 then bnd (fX13_doneByAll (gu + 1001) 0 μ6) fun x11 μ10 => some (x11 - x7, μ10) else bnd (fX13_passCycle (gu + 1001) 0 μ6) fun _ μ12 => j50 μ12 x7 (x8 + (1 : Int32))) ν1 (msM ν1) 0 = some (d, ν2) ∧ CY p 0 μ2 ν2 ∧ μ2.1 12 0 0 = nI (c + N) ∧ FD 0 μ1 μ2 ∧ FM ν1 ν2 := by
        have hF : fu + 1001 = (fu + (1000 - N)) + (N + 1) := by omega
        have hG : gu + 1001 = (gu + (1000 - N)) + (N + 1) := by omega
        have key := lp_ind2 (z := fun (_ : Mem) (_ : Int32) (_ : Int32) => (none : Option (RX Int32))) (y := fun (_ : Mem) (_ : Int32) (_ : Int32) => (none : Option (Int32 × Mem)))
          (b := fun (j45 : Mem → Int32 → Int32 → Option (RX Int32)) (μ5 : Mem) (x6 : Int32) (x7 : Int32) => if nI N ≤ x7 then some (.inr x6, μ5) else bnd (fX9_simulateCycle (fu + 1001) 0 0 μ5) fun x10 μ9 => j45 μ9 (x6 + x10) (x7 + (1 : Int32)))
          (c := fun (j50 : Mem → Int32 → Int32 → Option (Int32 × Mem)) (μ6 : Mem) (x7 : Int32) (x8 : Int32) => if nI N ≤ x8 then bnd (fX13_doneByAll (gu + 1001) 0 μ6) fun x11 μ10 => some (x11 - x7, μ10) else bnd (fX13_passCycle (gu + 1001) 0 μ6) fun _ μ12 => j50 μ12 x7 (x8 + (1 : Int32)))
          (P := fun r f g => ∀ (k : Nat) (d : Int32) (μ' ν' : Mem), k + r = N → CY p 0 μ' ν' → μ'.1 12 0 0 = nI (c + k) → FD 0 μ1 μ' → FM ν1 ν' → msM ν' = msM ν1 + d → ∃ d2 μ2 ν2, f μ' d (nI k) = some (.inr d2, μ2) ∧ g ν' (msM ν1) (nI k) = some (d2, ν2) ∧ CY p 0 μ2 ν2 ∧ μ2.1 12 0 0 = nI (c + N) ∧ FD 0 μ1 μ2 ∧ FM ν1 ν2)
          (fun f g k d μ' ν' hk hcy hcl hfd hfm hms => ?_) (fun r f g ih k d μ' ν' hk hcy hcl hfd hfm hms => ?_) N (fu + (1000 - N)) (gu + (1000 - N))
        · rw [← hF, ← hG] at key
          exact key 0 0 μ1 ν1 (by omega) (cy_now h1) cC1 fd_refl fm_refl (by simp)
        · have : k = N := by omega
          subst this
          refine ⟨d, μ', ν', if_pos (nI_le (Nat.le_refl _) (by omega)), (if_pos (nI_le (Nat.le_refl _) (by omega))).trans ?_, hcy, hcl, hfd, hfm⟩
          rw [show gu + 1001 = (gu + 996) + 5 by omega, m_done, bnd_some, hms]
          have : msM ν1 + d - msM ν1 = d := by grind
          rw [this]
        · obtain ⟨dn, μ2, ν2, s1, s2, s3, s4, s5, s6, s7, s8, _⟩ := pr_cycle hcy hcl (by omega) (fu + 968) (gu + 968)
          have s1' : fX9_simulateCycle (fu + 1001) 0 0 μ' = some (nI dn, μ2) := s1
          have s2' : fX13_passCycle (gu + 1001) 0 ν' = some ((), ν2) := s2
          dsimp only
          rw [if_neg (nI_ge (by omega) (by omega)), if_neg (nI_ge (by omega) (by omega)), s1', s2', bnd_some, bnd_some, nI_1]
          exact ih (k + 1) (d + nI dn) μ2 ν2 (by omega) s4 s5 (fd_step hfd s7) (fm_trans hfm s8) (by rw [s6, hms]; grind)
      obtain ⟨d, μ2, ν2, m1, m2, m3, m4, m5, m6⟩ := main
      refine ⟨.inr d, μ2, d, ν2, m1, m2, ⟨?_, rfl⟩, ?_, kr_trans k1 (kr_fd m5), kc_trans kc_26 (kc_trans k2 (kc_fm m6))⟩
      · exact (m6.2.1 26 0 6 (by omega) (by omega) (by omega) (by omega)).trans ht
      · exact rel2_upd2 (i := 0) (by decide) h1 m5 m3.2.2.2 (fun n k q => m6.2.1 26 n k (by omega) (by omega) (by omega) (by omega)) (fun n k q => m6.2.1 28 n k (by omega) (by omega) (by omega) (by omega)) (fun n k q _ => m6.2.1 27 n k (by omega) (by omega) (by omega) (by omega)) m6.2.2 (relM_clk (by decide) hend (by decide) m4 m3.2.2.1)
    · have hle : ¬ nI (c + N) ≤ (1000000 : Int32) := nI_ge (a := 1000000) (by omega) (by omega)
      rw [if_neg hle, if_neg hle]
      exact ⟨.inr (-4), μ, -4, wI ν 26 0 6 0, rfl, rfl, ⟨rfl, rfl⟩, h, kr_nil, kc_26⟩
