/-! promise 38: stuck -/
theorem bt_emask {b : Nat → Bool} : ∀ (n i : Nat) (acc : Int32), i + n ≤ 32 → ∀ q, q < 32 → bt (emask b acc i n) q = (bt acc q || (decide (i ≤ q ∧ q < i + n) && b q))
  | 0, i, acc, _, q, _ => by
    show bt acc q = _
    rw [decide_eq_false (by omega)]; simp
  | n + 1, i, acc, hin, q, hq => by
    show bt (emask b (if b i then acc ||| ((1 : Int32) <<< (nI i &&& 31)) else acc) (i + 1) n) q = _
    rw [bt_emask n (i + 1) _ (by omega) q hq]
    have e1 : bt (if b i then acc ||| ((1 : Int32) <<< (nI i &&& 31)) else acc) q = (bt acc q || (b i && decide (q = i))) := by
      cases b i
      · simp
      · rw [if_pos rfl, bt_or, bt_bit (by omega) hq]; simp
    rw [e1]
    by_cases h : q = i
    · subst h
      rw [decide_eq_true rfl, decide_eq_false (by omega), decide_eq_true (by omega)]; simp
    · rw [decide_eq_false h]
      by_cases h2 : i ≤ q ∧ q < i + (n + 1)
      · rw [decide_eq_true h2, decide_eq_true (by omega)]; simp
      · rw [decide_eq_false h2, decide_eq_false (by omega)]; simp
theorem emask_congr {b b' : Nat → Bool} (h : ∀ e, e < 4 → b e = b' e) : emask b 0 0 4 = emask b' 0 0 4 := bt_ext fun q hq => by
  rw [bt_emask 4 0 0 (by decide) q hq, bt_emask 4 0 0 (by decide) q hq]
  by_cases h4 : q < 4
  · rw [h q h4]
  · rw [decide_eq_false (by omega)]; simp
theorem emask_z {b : Nat → Bool} (h : emask b 0 0 4 = 0) {e : Nat} (he : e < 4) : b e = false := by
  have := bt_emask (b := b) 4 0 0 (by decide) e (by omega)
  rw [h, bt_0, decide_eq_true (by omega)] at this
  simpa using this.symm
section
variable {p : Nat} {μ ν : Mem}
def bC (p : Nat) (μ : Mem) (e : Nat) : Bool := !decide (μ.1 8 (4 * p + e) 0 = 0) && (!decide (μ.1 18 (4 * 0 + e) 10 = 0) && decide (μ.1 21 (4 * 1 + e) 0 = μ.1 21 (4 * 0 + e) 0))
def bM (ν : Mem) (e : Nat) : Bool := decide (tN ν (476 + 21 * e + 0) = 1) && (decide (tN ν (560 + 35 * e + 0) = 1) && decide (tN ν (560 + 35 * e + 29) = ν.1 27 2 (560 + 35 * e + 29)))
theorem c_idle {μ' : Mem} (hp : p < 2) (h4 : μ'.2.1 0 0 4 = p) (fu : Nat) : fX12_idleEngines (fu + 5) 0 μ' = some (emask (bC p μ') 0 0 4, μ') := by
  unfold fX12_idleEngines
  simp only [jn_eq, nm_eq]
  refine lp_ind (P := fun n (f : Mem → Int32 → Int32 → Option (Int32 × Mem)) => ∀ (i : Nat) (acc : Int32), i + n = 4 → f μ' acc (nI i) = some (emask (bC p μ') acc i n, μ')) (fun f i acc hi => ?_) (fun n f ih i acc hi => ?_) 4 fu 0 0 rfl
  · have : i = 4 := by omega
    subst this
    exact if_pos (by decide)
  · have hi4 : i < 4 := by omega
    have ki : ∀ {α : Type} (o : Option α), ckI (nI i) 4 o = o := fun o => ckI_nI hi4 (by decide)
    have k0 : ∀ {α : Type} (o : Option α), ckI (0 : Int32) 6 o = o := fun o => ckI_at (by decide)
    rw [if_neg (show ¬ (4 : Int32) ≤ nI i from nI_ge (b := 4) hi4 (by decide))]
    simp only [ki, k0, h4, nI_clamp (show i < 2 ^ 31 by omega), if_pos trivial, if_neg ne10]
    rw [ckB_ok hp, c_has_at hi4, nI_1]
    show _ = some (emask (bC p μ') (if bC p μ' i then acc ||| ((1 : Int32) <<< (nI i &&& 31)) else acc) (i + 1) n, μ')
    unfold bC
    by_cases h8 : μ'.1 8 (4 * p + i) 0 = 0
    · rw [if_pos h8, bnd_some, if_pos rfl, decide_eq_true h8]
      exact ih (i + 1) acc (by omega)
    · rw [if_neg h8, bnd_some, if_neg ne10, decide_eq_false h8]
      by_cases h10 : μ'.1 18 (4 * 0 + i) 10 = 0
      · rw [if_pos h10, decide_eq_true h10]
        exact ih (i + 1) acc (by omega)
      · rw [if_neg h10, decide_eq_false h10]
        by_cases hc : μ'.1 21 (4 * 1 + i) (0 : Int32).toNatClampNeg = μ'.1 21 (4 * 0 + i) (0 : Int32).toNatClampNeg
        · rw [if_neg (fun z => z hc), decide_eq_true (show μ'.1 21 (4 * 1 + i) 0 = μ'.1 21 (4 * 0 + i) 0 from hc)]
          exact ih (i + 1) _ (by omega)
        · rw [if_pos hc, decide_eq_false (show ¬ μ'.1 21 (4 * 1 + i) 0 = μ'.1 21 (4 * 0 + i) 0 from hc)]
          exact ih (i + 1) acc (by omega)
/-- the model's mask, and its row put back -/
def mkM (gu : Nat) : Mem → Int32 → Int32 → Option (Int32 × Mem) :=
  lp (fun _ _ _ => none) (gu + 2002) (fun (j52 : Mem → Int32 → Int32 → Option (Int32 × Mem)) (μ8 : Mem) (x9 x10 : Int32) => if (4 : Int32) ≤ x10 then (bnd (fX13_copy (gu + 2002) 2 (0 : Int32) 0 (0 : Int32) μ8) fun _ μ12 => some (x9, μ12))
    else bnd (fX13_setting 0 x10 (0 : Int32) μ8) fun x28 μ27 => if ¬ x28 = (1 : Int32) then j52 μ27 (x9 ||| (0 : Int32)) (x10 + (1 : Int32))
    else bnd (fX13_of 0 x10 (0 : Int32) μ27) fun x31 μ30 => if ¬ x31 = (1 : Int32) then j52 μ30 (x9 ||| (0 : Int32)) (x10 + (1 : Int32))
    else bnd (fX13_of 0 x10 (29 : Int32) μ30) fun x34 μ33 => ckI ((((560 : Int32) + ((35 : Int32) * x10)) + (29 : Int32)) + (0 : Int32)) (if 2 = 4 then 7000 else 700) <| if ¬ x34 = (μ33.1 27 2 ((((560 : Int32) + ((35 : Int32) * x10)) + (29 : Int32)) + (0 : Int32)).toNatClampNeg) then j52 μ33 (x9 ||| (0 : Int32)) (x10 + (1 : Int32)) else j52 μ33 (x9 ||| ((1 : Int32) <<< (x10 &&& 31))) (x10 + (1 : Int32)))
theorem m_mask {ν' : Mem} (gu : Nat) : mkM gu ν' 0 0 = (bnd (fX13_copy (gu + 2002) 2 0 0 0 ν') fun _ μ12 => some (emask (bM ν') 0 0 4, μ12)) := by
  unfold mkM
  rw [show gu + 2002 = (gu + 1997) + (4 + 1) by omega]
  refine lp_ind (P := fun n (f : Mem → Int32 → Int32 → Option (Int32 × Mem)) => ∀ (i : Nat) (acc : Int32), i + n = 4 → f ν' acc (nI i) = (bnd (fX13_copy (gu + 1997 + (4 + 1)) 2 0 0 0 ν') fun _ μ12 => some (emask (bM ν') acc i n, μ12))) (fun f i acc hi => ?_) (fun n f ih i acc hi => ?_) 4 (gu + 1997) 0 0 rfl
  · have : i = 4 := by omega
    subst this
    exact if_pos (by decide)
  · have hi4 : i < 4 := by omega
    have es : fX13_setting 0 (nI i) 0 ν' = some (tN ν' (476 + 21 * i + 0), ν') := r_setting (f := 0) (by omega)
    have eo : fX13_of 0 (nI i) 0 ν' = some (tN ν' (560 + 35 * i + 0), ν') := r_of (f := 0) (by omega)
    have ed : fX13_of 0 (nI i) 29 ν' = some (tN ν' (560 + 35 * i + 29), ν') := r_of (f := 29) (by omega)
    have ix : (((560 : Int32) + ((35 : Int32) * nI i)) + (29 : Int32)) + (0 : Int32) = nI (560 + 35 * i + 29) := by
      rw [show (35 : Int32) * nI i = nI (35 * i) from pk_mul 35 i, show (560 : Int32) + nI (35 * i) = nI (560 + 35 * i) from nI_add 560 _, show nI (560 + 35 * i) + 29 = nI (560 + 35 * i + 29) from nI_add _ 29]
      simp
    have r2 : 560 + 35 * i + 29 < (if 2 = 4 then 7000 else 700) := by rw [if_neg (by decide)]; omega
    rw [if_neg (show ¬ (4 : Int32) ≤ nI i from nI_ge (b := 4) hi4 (by decide)), es, bnd_some, eo, bnd_some, ed, bnd_some, ix, ckI_nI r2 (by decide), nI_clamp (by omega), nI_1, or0]
    show _ = (bnd (fX13_copy (gu + 1997 + (4 + 1)) 2 0 0 0 ν') fun _ μ12 => some (emask (bM ν') (if bM ν' i then acc ||| ((1 : Int32) <<< (nI i &&& 31)) else acc) (i + 1) n, μ12))
    unfold bM
    by_cases h8 : tN ν' (476 + 21 * i + 0) = 1
    · rw [if_neg (fun z => z h8), decide_eq_true h8]
      by_cases h10 : tN ν' (560 + 35 * i + 0) = 1
      · rw [if_neg (fun z => z h10), decide_eq_true h10]
        by_cases hc : tN ν' (560 + 35 * i + 29) = ν'.1 27 2 (560 + 35 * i + 29)
        · rw [if_neg (fun z => z hc), decide_eq_true hc]
          exact ih (i + 1) _ (by omega)
        · rw [if_pos hc, decide_eq_false hc]
          exact ih (i + 1) acc (by omega)
      · rw [if_pos h10, decide_eq_false h10]
        exact ih (i + 1) acc (by omega)
    · rw [if_pos h8, decide_eq_false h8]
      exact ih (i + 1) acc (by omega)
theorem op_stuck (h : Rel2 p μ ν) (m : Int32) (fu gu : Nat) : OpI p μ ν (fX12_stuck (fu + 2002) 0 m μ) (fX13_stuck (gu + 2002) 0 m ν) := by
  have h0 : Rel2 p μ (wI ν 26 0 6 0) := h
  obtain ⟨c, hc, cT, cC⟩ := rel2_clk h
  unfold fX12_stuck fX13_stuck
  simp only [jn_eq, nm_eq, if_pos trivial]
  rcases ix_cases m (n := 2001) (by decide) with hm | ⟨L, hL, rfl⟩
  · refine op_badI h ?_ ?_
    · rw [c_limit_bad hm, bndX_inl]
    · rw [m_limit_bad hm, bnd_some, if_neg nn0, m_raise, bnd_some, wI_wI]
  · obtain ⟨s1, s2, s3, s4, s5, s6, s7⟩ := fc_start h0 cC
    have s1' : fX3_copyFrom (fu + 2002) 1 0 μ = _ := s1 (fu + 1997)
    have s2' : fX13_copy (gu + 2002) 0 0 2 0 (wI ν 26 0 6 0) = _ := s2 (gu + 1301)
    rw [c_limit_ok (by omega), bndX_inr, m_limit_ok (by omega), bnd_some, if_pos ne10, s1', bnd_some, s2', bnd_some]
    have en0 : ∀ e, e < 4 → (cpS (tau 0) (sC 1) μ).1 18 (4 * 1 + e) 10 = μ.1 18 (4 * 0 + e) 10 := fun e he => ((cp_same (i := 0) (m := 1)).2.2.2.2.2 e he).1 10 (by decide)
    generalize hμc : cpS (tau 0) (sC 1) μ = μc at s3 s4 s5 s1' en0 ⊢
    generalize hνc : rwP 0 0 2 0 700 (wI ν 26 0 6 0) = νc at s3 s6 s7 s2' ⊢
    -- what holds after k cycles
    let INV : Nat → Mem → Mem → Prop := fun k μ' ν' => CY p 1 μ' ν' ∧ μ'.1 12 1 0 = nI (c + k) ∧ FD 1 μc μ' ∧ FM νc ν' ∧ (∀ e, e < 4 → μ'.1 18 (4 * 1 + e) 10 = μ.1 18 (4 * 0 + e) 10) ∧ ∀ e, e < 4 → ∃ n, n ≤ k ∧ tN ν' (560 + 35 * e + 29) = tN ν (560 + 35 * e + 29) + nI n
    have inv0 : INV 0 μc νc := ⟨s3, s4, fd_refl, fm_refl, en0, fun e he => ⟨0, Nat.le_refl _, by rw [show tN νc (560 + 35 * e + 29) = tN ν (560 + 35 * e + 29) from s7 27 0 _ (by omega), nI_0]; simp⟩⟩
    have step : ∀ k μ' ν', k < L → INV k μ' ν' → ∃ dn μ2 ν2, fX9_simulateCycle (fu + 2002) 0 1 μ' = some (dn, μ2) ∧ fX13_passCycle (gu + 2002) 0 ν' = some ((), ν2) ∧ INV (k + 1) μ2 ν2 ∧ ∀ e, e < 4 → ∃ m, m ≤ 1 ∧ tN ν2 (560 + 35 * e + 29) = tN ν' (560 + 35 * e + 29) + nI m := fun k μ' ν' hk ⟨i1, i2, i3, i4, i5, i6⟩ => by
      obtain ⟨dn, μ2, ν2, t1, t2, t3, t4, t5, t6, t7, t8, t9, t10⟩ := pr_cycle i1 i2 (by omega) (fu + 1969) (gu + 1969)
      have cn : ∀ e, e < 4 → ∃ m, m ≤ 1 ∧ tN ν2 (560 + 35 * e + 29) = tN ν' (560 + 35 * e + 29) + nI m := fun e he => (t10 e he).elim (fun z => ⟨0, by decide, by rw [z, nI_0]; simp⟩) (fun z => ⟨1, by decide, z⟩)
      refine ⟨nI dn, μ2, ν2, t1, t2, ⟨t4, t5, fd_step i3 t7, fm_trans i4 t8, fun e he => (t9 e he).trans (i5 e he), fun e he => ?_⟩, cn⟩
      obtain ⟨n, hn, en⟩ := i6 e he
      obtain ⟨m, hm, em⟩ := cn e he
      exact ⟨n + m, by omega, by rw [em, en, Int32.add_assoc, nI_add]⟩
    -- an engine's bit, class and model
    have K2 : ∀ e, e < 4 → μ.1 8 (4 * p + e) 0 = 1 → μ.1 21 (4 * 0 + e) 0 = tN ν (560 + 35 * e + 29) := fun e he hx => ((h.2.2.1.2.2.2.2.2.2 e he hx).1.2.2.2.1 0 (by decide)).symm
    have nz : ∀ (K : Int32) (n : Nat), n ≤ 4000 → (K + nI n = K ↔ n = 0) := fun K n hn => by
      constructor
      · intro hh
        have : nI n = nI 0 := by
          have h2 : K + nI n - K = 0 := by rw [hh]; simp
          have h3 : K + nI n - K = nI n := by grind
          rw [h3] at h2; exact h2
        exact nI_inj (by omega) (by decide) this
      · rintro rfl; rw [nI_0]; simp
    have hset : ∀ e, e < 4 → (μ.1 8 (4 * p + e) 0 = 0 ∧ tN ν (476 + 21 * e) = 0) ∨ (μ.1 8 (4 * p + e) 0 = 1 ∧ tN ν (476 + 21 * e) = 1) := fun e he => by
      obtain ⟨_, _, _, _, _, hS⟩ := h.2.1
      rcases hS e he with ⟨a, b⟩ | ⟨a, b, _⟩
      · exact Or.inl ⟨a, b⟩
      · exact Or.inr ⟨a, b⟩
    have bits : ∀ k μ' ν' (ns : Nat → Nat), k ≤ L → INV k μ' ν' → (∀ e, e < 4 → ns e ≤ 2000 ∧ tN ν' (560 + 35 * e + 29) = tN ν (560 + 35 * e + 29) + nI (ns e)) → ∀ e, e < 4 → bC p μ' e = (decide (μ.1 8 (4 * p + e) 0 = 1) && (decide (μ.1 18 (4 * 0 + e) 10 = 1) && decide (ns e = 0))) ∧ bM ν' e = (decide (μ.1 8 (4 * p + e) 0 = 1) && (decide (μ.1 18 (4 * 0 + e) 10 = 1) && decide (ns e = 0))) := fun k μ' ν' ns hk ⟨i1, i2, i3, i4, i5, i6⟩ hns e he => by
      have f8 : μ'.1 8 (4 * p + e) 0 = μ.1 8 (4 * p + e) 0 := (fd_trans s5 i3).2 8 _ 0 (by decide) (fun z => z.1 rfl)
      have f18 : μ'.1 18 (4 * 0 + e) 10 = μ.1 18 (4 * 0 + e) 10 := (fd_trans s5 i3).2 18 _ 10 (by decide) (fun z => absurd (show (4 * 0 + e) / 4 = 1 from z.2) (by omega))
      have f21 : μ'.1 21 (4 * 0 + e) 0 = μ.1 21 (4 * 0 + e) 0 := (fd_trans s5 i3).2 21 _ 0 (by decide) (fun z => absurd (show (4 * 0 + e) / 4 = 1 from z.2) (by omega))
      have g8 : tN ν' (476 + 21 * e + 0) = tN ν (476 + 21 * e) := (i4.2.2 _ (by omega)).trans (s7 27 0 _ (by omega))
      have g2 : ν'.1 27 2 (560 + 35 * e + 29) = tN ν (560 + 35 * e + 29) := (i4.2.1 27 2 _ (by omega) (by omega) (by omega) (by omega)).trans (s6 _ (by omega))
      unfold bC bM
      rw [f8, f18, f21, g8, g2]
      rcases hset e he with ⟨a, b⟩ | ⟨a, b⟩
      · rw [a, b]; exact ⟨rfl, rfl⟩
      · have E := (i1.2.2.1.2.2.2.2.2.2 e he (f8.trans a)).1
        have e1 : μ'.1 21 (4 * 1 + e) 0 = tN ν (560 + 35 * e + 29) + nI (ns e) := (E.2.2.2.1 0 (by decide)).symm.trans (hns e he).2
        have e0 : tN ν' (560 + 35 * e + 0) = μ.1 18 (4 * 0 + e) 10 := E.1.trans (i5 e he)
        have ez : μ.1 18 (4 * 0 + e) 10 = 0 ∨ μ.1 18 (4 * 0 + e) 10 = 1 := rel2_z h (by omega)
        rw [e1, K2 e he a, (hns e he).2, e0, a, b]
        have d1 : decide (tN ν (560 + 35 * e + 29) + nI (ns e) = tN ν (560 + 35 * e + 29)) = decide (ns e = 0) := decide_eq_decide.mpr (nz _ _ (by have := (hns e he).1; omega))
        rw [d1]
        rcases ez with z | z <;> rw [z] <;> exact ⟨rfl, rfl⟩
    have key := lp_ind2 (z := fun (_ : Mem) (_ : Int32) (_ : Int32) => (none : Option (RX Int32))) (y := fun (_ : Mem) (_ : Int32) => (none : Option (Int32 × Mem)))
      (b := fun (j22 : Mem → Int32 → Int32 → Option (RX Int32)) (μ1 : Mem) (x2 x3 : Int32) => if nI L ≤ x3 then some (.inr x2, μ1) else if x2 = 0 then some (.inr x2, μ1) else bnd (fX9_simulateCycle (fu + 2002) 0 1 μ1) fun _ μ8 => bnd (fX12_idleEngines (fu + 2002) 0 μ8) fun x11 μ10 => j22 μ10 x11 (x3 + (1 : Int32)))
      (c := fun (j33 : Mem → Int32 → Option (Int32 × Mem)) (μ5 : Mem) (x6 : Int32) => if nI L ≤ x6 then mkM gu μ5 0 0 else bnd (fX13_passCycle (gu + 2002) 0 μ5) fun _ μ36 => j33 μ36 (x6 + (1 : Int32)))
      (P := fun r f g => (∀ k μ' ν', k + r = L → INV k μ' ν' → ∃ μ2 ν2, g ν' (nI k) = mkM gu ν2 0 0 ∧ INV L μ2 ν2 ∧ ∀ e, e < 4 → ∃ m, m ≤ r ∧ tN ν2 (560 + 35 * e + 29) = tN ν' (560 + 35 * e + 29) + nI m) ∧
        ∀ k μ' ν', k + r = L → INV k μ' ν' → ∃ v μ2 ν2, f μ' (emask (bC p μ') 0 0 4) (nI k) = some (.inr v, μ2) ∧ g ν' (nI k) = mkM gu ν2 0 0 ∧ v = emask (bM ν2) 0 0 4 ∧ FD 1 μc μ2 ∧ okM 1 μ2 ∧ FM νc ν2)
      (fun f g => ⟨fun k μ' ν' hk hI => ?_, fun k μ' ν' hk hI => ?_⟩) (fun r f g ih => ⟨fun k μ' ν' hk hI => ?_, fun k μ' ν' hk hI => ?_⟩) L (fu + (2001 - L)) (gu + (2001 - L))
    · rw [show fu + (2001 - L) + (L + 1) = fu + 2002 by omega, show gu + (2001 - L) + (L + 1) = gu + 2002 by omega] at key
      obtain ⟨v, μ2, ν2, m1, m2, mv, m3, m4, m5⟩ := key.2 0 μc νc (by omega) inv0
      have hp4 : μc.2.1 0 0 4 = p := (s5.1.1 0 0 4 (by omega)).trans h.1.2.1
      have ci : fX12_idleEngines (fu + 2002) 0 μc = _ := c_idle h.1.1 hp4 (fu + 1997)
      rw [m_mask] at m2
      rw [← hνc] at m5 s6 s7
      obtain ⟨e1, e2, e3, e4, e5⟩ := fc_end h0 (fd_trans s5 m3) m4 m5 s6 s7
      have e1' : fX13_copy (gu + 2002) 2 0 0 0 ν2 = _ := e1 (gu + 1301)
      rw [e1', bnd_some, ← mv] at m2
      refine ⟨.inr v, μ2, v, _, ?_, m2, ⟨e5.trans wI_same, rfl⟩, e2, e3, kc_trans kc_26 e4⟩
      rw [ci, bnd_some]
      exact m1
    · have : k = L := by omega
      subst this
      exact ⟨μ', ν', if_pos (nI_le (Nat.le_refl _) (by omega)), hI, fun e he => ⟨0, Nat.le_refl _, by rw [nI_0]; simp⟩⟩
    · have : k = L := by omega
      subst this
      have hns : ∀ e, ∃ n, e < 4 → n ≤ 2000 ∧ tN ν' (560 + 35 * e + 29) = tN ν (560 + 35 * e + 29) + nI n := fun e => by
        by_cases he : e < 4
        · obtain ⟨n, hn, en⟩ := hI.2.2.2.2.2 e he
          exact ⟨n, fun _ => ⟨by omega, en⟩⟩
        · exact ⟨0, fun q => absurd q he⟩
      have hb := bits k μ' ν' (fun e => Classical.choose (hns e)) (Nat.le_refl _) hI (fun e he => Classical.choose_spec (hns e) he)
      refine ⟨_, μ', ν', if_pos (nI_le (Nat.le_refl _) (by omega)), if_pos (nI_le (Nat.le_refl _) (by omega)), ?_, hI.2.2.1, hI.1.2.2.2, hI.2.2.2.1⟩
      exact emask_congr fun e he => (hb e he).1.trans (hb e he).2.symm
    · obtain ⟨dn, μ2, ν2, t1, t2, t3, t4⟩ := step k μ' ν' (by omega) hI
      obtain ⟨μ3, ν3, u1, u2, u3⟩ := ih.1 (k + 1) μ2 ν2 (by omega) t3
      refine ⟨μ3, ν3, ?_, u2, fun e he => ?_⟩
      · show (if nI L ≤ nI k then _ else _) = _
        rw [if_neg (nI_ge (by omega) (by omega)), t2, bnd_some, nI_1]; exact u1
      · obtain ⟨a, ha, ea⟩ := t4 e he
        obtain ⟨b, hb, eb⟩ := u3 e he
        exact ⟨a + b, by omega, by rw [eb, ea, Int32.add_assoc, nI_add]⟩
    · obtain ⟨dn, μ2, ν2, t1, t2, t3, t4⟩ := step k μ' ν' (by omega) hI
      dsimp only
      rw [if_neg (show ¬ nI L ≤ nI k from nI_ge (by omega) (by omega)), if_neg (show ¬ nI L ≤ nI k from nI_ge (by omega) (by omega)), t1, bnd_some, t2, bnd_some, nI_1]
      by_cases hz : emask (bC p μ') 0 0 4 = 0
      · rw [if_pos hz]
        obtain ⟨μ3, ν3, u1, u2, u3⟩ := ih.1 (k + 1) μ2 ν2 (by omega) t3
        refine ⟨_, μ', ν3, rfl, u1, ?_, hI.2.2.1, hI.1.2.2.2, u2.2.2.2.1⟩
        have hns : ∀ e, ∃ n, e < 4 → n ≤ 2000 ∧ tN ν' (560 + 35 * e + 29) = tN ν (560 + 35 * e + 29) + nI n := fun e => by
          by_cases he : e < 4
          · obtain ⟨n, hn, en⟩ := hI.2.2.2.2.2 e he
            exact ⟨n, fun _ => ⟨by omega, en⟩⟩
          · exact ⟨0, fun q => absurd q he⟩
        obtain ⟨ns, hN⟩ : ∃ ns : Nat → Nat, ∀ e, e < 4 → ns e ≤ 2000 ∧ tN ν' (560 + 35 * e + 29) = tN ν (560 + 35 * e + 29) + nI (ns e) := ⟨fun e => Classical.choose (hns e), fun e he => Classical.choose_spec (hns e) he⟩
        have hms0 : ∀ e, ∃ n, e < 4 → ns e ≤ n ∧ n ≤ 2000 ∧ tN ν3 (560 + 35 * e + 29) = tN ν (560 + 35 * e + 29) + nI n := fun e => by
          by_cases he : e < 4
          · obtain ⟨a, ha, ea⟩ := t4 e he
            obtain ⟨b, hb, eb⟩ := u3 e he
            obtain ⟨y1, y2⟩ := hN e he
            obtain ⟨n0, hn0, en0⟩ := hI.2.2.2.2.2 e he
            have hnn : ns e = n0 := by
              have h3 : tN ν (560 + 35 * e + 29) + nI (ns e) = tN ν (560 + 35 * e + 29) + nI n0 := y2.symm.trans en0
              have h4 : nI (ns e) = nI n0 := by grind
              exact nI_inj (by omega) (by omega) h4
            exact ⟨ns e + (a + b), fun _ => ⟨by omega, by omega, by rw [eb, ea, y2, Int32.add_assoc, Int32.add_assoc, nI_add, nI_add]⟩⟩
          · exact ⟨0, fun q => absurd q he⟩
        obtain ⟨ms, hM⟩ : ∃ ms : Nat → Nat, ∀ e, e < 4 → ns e ≤ ms e ∧ ms e ≤ 2000 ∧ tN ν3 (560 + 35 * e + 29) = tN ν (560 + 35 * e + 29) + nI (ms e) := ⟨fun e => Classical.choose (hms0 e), fun e he => Classical.choose_spec (hms0 e) he⟩
        have hb := bits k μ' ν' ns (by omega) hI hN
        have hb3 := bits L μ3 ν3 ms (Nat.le_refl _) u2 (fun e he => (hM e he).2)
        refine emask_congr fun e he => ?_
        rw [(hb3 e he).2, emask_z hz he]
        have hbe := (hb e he).1
        rw [emask_z hz he] at hbe
        have hle := (hM e he).1
        by_cases hq : ms e = 0
        · rw [decide_eq_true hq]
          rw [decide_eq_true (show ns e = 0 by omega)] at hbe
          exact hbe
        · rw [decide_eq_false hq]; simp
      · have hp4 : μ2.2.1 0 0 4 = p := ((fd_trans s5 t3.2.2.1).1.1 0 0 4 (by omega)).trans h.1.2.1
        have ci : fX12_idleEngines (fu + 2002) 0 μ2 = _ := c_idle h.1.1 hp4 (fu + 1997)
        rw [if_neg hz, ci, bnd_some]
        exact ih.2 (k + 1) μ2 ν2 (by omega) t3
end
