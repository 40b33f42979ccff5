/-! FORECASTS, on a copy: the class's machine 1; the model keeps its row and puts it back -/
section
variable {p : Nat} {μ ν : Mem}
theorem kc_rw {a r b s x : Nat} : KC ν (rwP a r b s x ν) := ⟨fun κ n k hk => if_neg (by omega), fun _ _ _ _ => rfl⟩
/-- where a forecast begins -/
theorem fc_start (h : Rel2 p μ ν) {c : Nat} (hc : μ.1 12 0 0 = nI c) : (∀ fu, fX3_copyFrom (fu + 5) 1 0 μ = some ((), cpS (tau 0) (sC 1) μ)) ∧ (∀ gu, fX13_copy (gu + 701) 0 0 2 0 ν = some ((), rwP 0 0 2 0 700 ν)) ∧
    CY p 1 (cpS (tau 0) (sC 1) μ) (rwP 0 0 2 0 700 ν) ∧ (cpS (tau 0) (sC 1) μ).1 12 1 0 = nI c ∧ FD 1 μ (cpS (tau 0) (sC 1) μ) ∧ (∀ k, k < 700 → (rwP 0 0 2 0 700 ν).1 27 2 k = ν.1 27 0 k) ∧ (∀ κ n k, ¬ (κ = 27 ∧ n = 2) → (rwP 0 0 2 0 700 ν).1 κ n k = ν.1 κ n k) := by
  have ho : ∀ {a b k : Nat}, (wd a = 0 ∨ b / wd a ≠ 1) → (cpS (tau 0) (sC 1) μ).1 a b k = μ.1 a b k := fun h => cp_out own_S h
  have kw : ∀ {a : Nat}, wd a = 0 → (cpS (tau 0) (sC 1) μ).1 a = μ.1 a := fun hw => funext fun b => funext fun c => ho (Or.inl hw)
  have w8 := kw (a := 8) rfl
  have sm : Same μ (cpS (tau 0) (sC 1) μ) 0 1 := cp_same
  have tr : ∀ κ n k, ¬ (κ = 27 ∧ n = 2) → (rwP 0 0 2 0 700 ν).1 κ n k = ν.1 κ n k := fun κ n k q => if_neg (by omega)
  have t0 : ∀ k, k < 700 → (rwP 0 0 2 0 700 ν).1 27 0 k = ν.1 27 0 k := fun k _ => tr 27 0 k (by omega)
  refine ⟨fun fu => cp_machine (by decide) (fun e he => rel2_z h (by omega)) fu, fun gu => m_copy (a := 0) (r := 0) (b := 2) (s := 0) (Or.inl (by decide)) (by decide) (by decide) gu, ⟨⟨h.1.1, by decide, h.1.2.2.2.1⟩, ?_, ?_, fun t ht => ?_, fun t ht => ?_⟩, ?_, ⟨⟨fun _ _ _ _ => rfl, rfl, Or.inl rfl⟩, fun κ n k _ q => ?_⟩, fun k hk => ?_, tr⟩
  · exact relP_T t0 (relP_congr (kw rfl) w8 (kw rfl) rfl h.2.1)
  · exact relM_le (by decide) (show relM _ 1 p _ from relM_T t0 (relM_same sm (fun e _ => by rw [w8]) h.2.2.1))
  · have e3 := (sm.2.2.2.2.2 (t / 2) (by omega)).2.2 (t % 2) (by omega)
    rw [show 2 * (4 * 1 + t / 2) + t % 2 = 8 * 1 + t by omega] at e3
    obtain ⟨s, hh, r, a, b, c, d1, d2, d3⟩ := rel2_okQ h (j := 2 * (4 * 0 + t / 2) + t % 2) (by omega)
    exact ⟨s, hh, r, a, b, c, (e3.1 0 (by decide)).trans d1, (e3.1 1 (by decide)).trans d2, (e3.1 2 (by decide)).trans d3⟩
  · rw [(sm.2.2.2.2.2 t ht).1 10 (by decide)]
    exact rel2_z h (by omega)
  · rw [sm.1 0 (Or.inl (by decide))]; exact hc
  · exact ho (by
      by_cases hw : wd κ = 0
      · exact Or.inl hw
      · exact Or.inr (fun z => q ⟨hw, z⟩))
  · show (if 27 = 27 ∧ 2 = 2 ∧ 700 * 0 ≤ k ∧ k < 700 * 0 + 700 then ν.1 27 0 (700 * 0 + (k - 700 * 0)) else _) = _
    rw [if_pos ⟨rfl, rfl, by omega, by omega⟩, show 700 * 0 + (k - 700 * 0) = k by omega]
/-- where it ends -/
theorem fc_end (h : Rel2 p μ ν) {μ' ν' : Mem} (hF : FD 1 μ μ') (hk : okM 1 μ') (hM : FM (rwP 0 0 2 0 700 ν) ν') (h2 : ∀ k, k < 700 → (rwP 0 0 2 0 700 ν).1 27 2 k = ν.1 27 0 k) (ho : ∀ κ n k, ¬ (κ = 27 ∧ n = 2) → (rwP 0 0 2 0 700 ν).1 κ n k = ν.1 κ n k) :
    (∀ gu, fX13_copy (gu + 701) 2 0 0 0 ν' = some ((), rwP 2 0 0 0 700 ν')) ∧ Rel2 p μ' (rwP 2 0 0 0 700 ν') ∧ KR μ μ' ∧ KC ν (rwP 2 0 0 0 700 ν') ∧ (rwP 2 0 0 0 700 ν').1 26 0 6 = ν.1 26 0 6 := by
  have t0 : ∀ k, k < 700 → (rwP 2 0 0 0 700 ν').1 27 0 k = ν.1 27 0 k := fun k hk => by
    show (if 27 = 27 ∧ 0 = 0 ∧ 700 * 0 ≤ k ∧ k < 700 * 0 + 700 then ν'.1 27 2 (700 * 0 + (k - 700 * 0)) else _) = _
    rw [if_pos ⟨rfl, rfl, by omega, by omega⟩, show 700 * 0 + (k - 700 * 0) = k by omega, hM.2.1 27 2 k (by omega) (by omega) (by omega) (by omega)]
    exact h2 k hk
  have tr : ∀ κ n k, ¬ (κ = 27 ∧ n = 0) → (rwP 2 0 0 0 700 ν').1 κ n k = ν'.1 κ n k := fun κ n k q => if_neg (by omega)
  have w8 : ∀ e, e < 4 → μ'.1 8 (4 * p + e) 0 = μ.1 8 (4 * p + e) 0 := fun e _ => hF.2 8 _ 0 (by decide) (fun z => z.1 rfl)
  refine ⟨fun gu => m_copy (a := 2) (r := 0) (b := 0) (s := 0) (Or.inl (by decide)) (by decide) (by decide) gu, ?_, kr_fd hF, ?_, ?_⟩
  · refine rel2_upd2 (i := 1) (by decide) h hF hk (fun n k q => ?_) (fun n k q => ?_) (fun n k q1 q2 => ?_) (fun k hk => t0 k (by omega)) ?_
    · rw [tr _ _ _ (by omega), hM.2.1 26 n k (by omega) (by omega) (by omega) (by omega)]; exact ho _ _ _ (by omega)
    · rw [tr _ _ _ (by omega), hM.2.1 28 n k (by omega) (by omega) (by omega) (by omega)]; exact ho _ _ _ (by omega)
    · rw [tr _ _ _ (by omega), hM.2.1 27 n k (by omega) (by omega) (by omega) (by omega)]; exact ho _ _ _ (by omega)
    · refine relM_T t0 (relM_same (same_own fun κ n k hw hn => hF.2 κ n k (fun z => hw (by rw [z]; rfl)) (fun z => absurd (z.2.symm.trans hn) (by decide))) w8 h.2.2.1)
  · exact kc_trans kc_rw (kc_trans (kc_fm hM) kc_rw)
  · rw [tr _ _ _ (by omega), hM.2.1 26 0 6 (by omega) (by omega) (by omega) (by omega)]; exact ho _ _ _ (by omega)
/-- what a machine's level is, class and model -/
theorem cy_lvl {i : Nat} (h : CY p i μ ν) {q : Nat} (hq : q < 16) : fX13_levelOf 0 (nI q) ν = some (b2 (lvl μ i q), ν) := by
  obtain ⟨a, b, c, _⟩ := h.2.2.1.2.2.1 q hq
  exact m_levelOf hq b a c
/-- a forecast that looks for something, cycle by cycle -/
theorem fc_loop {L c : Nat} {μc νc : Mem} (Tt : Mem → Bool) (hL : L ≤ 2000) (hc : c ≤ 1000000) {fu gu : Nat} {z : Mem → Int32 → Option (RX Int32)} {b : (Mem → Int32 → Option (RX Int32)) → Mem → Int32 → Option (RX Int32)} {y : Mem → Int32 → Option (Int32 × Mem)} {d : (Mem → Int32 → Option (Int32 × Mem)) → Mem → Int32 → Option (Int32 × Mem)}
    (hbz : ∀ f μ', b f μ' (nI (L + 1)) = some (.inr (-1), μ')) (hb : ∀ f μ' ν' k, CY p 1 μ' ν' → FD 1 μc μ' → k ≤ L → b f μ' (nI k) = if Tt μ' then some (.inr (nI k), μ') else bnd (fX9_simulateCycle (fu + 2002) 0 1 μ') fun _ μ7 => f μ7 (nI (k + 1)))
    (hd : ∀ g μ' ν' k, CY p 1 μ' ν' → FD 1 μc μ' → k ≤ L → d g ν' (nI k) = if Tt μ' then (bnd (fX13_copy (gu + 2002) 2 0 0 0 ν') fun _ μ20 => some (nI k, μ20)) else if k = L then (bnd (fX13_copy (gu + 2002) 2 0 0 0 ν') fun _ μ20 => some (-1, μ20)) else bnd (fX13_passCycle (gu + 2002) 0 ν') fun _ μ28 => g μ28 (nI (k + 1)))
    (h0 : CY p 1 μc νc) (hcl : μc.1 12 1 0 = nI c) : ∃ v μ' ν', lp z (fu + 2002) b μc (nI 0) = some (.inr v, μ') ∧ lp y (gu + 2002) d νc (nI 0) = (bnd (fX13_copy (gu + 2002) 2 0 0 0 ν') fun _ μ20 => some (v, μ20)) ∧ FD 1 μc μ' ∧ okM 1 μ' ∧ FM νc ν' := by
  have key := lp_ind2 (z := z) (y := y) (b := b) (c := d)
    (P := fun r f g => (r = 0 → ∀ μ', f μ' (nI (L + 1)) = some (.inr (-1), μ')) ∧ ∀ (k : Nat) (μ' ν' : Mem), 0 < r → k + r = L + 1 → CY p 1 μ' ν' → μ'.1 12 1 0 = nI (c + k) → FD 1 μc μ' → FM νc ν' →
      ∃ v μ2 ν2, f μ' (nI k) = some (.inr v, μ2) ∧ g ν' (nI k) = (bnd (fX13_copy (gu + 2002) 2 0 0 0 ν2) fun _ μ20 => some (v, μ20)) ∧ FD 1 μc μ2 ∧ okM 1 μ2 ∧ FM νc ν2)
    (fun f g => ⟨fun _ μ' => hbz f μ', fun k μ' ν' h => absurd h (by omega)⟩) (fun r f g ih => ⟨fun h => absurd h (by omega), fun k μ' ν' _ hk hcy hck hfd hfm => ?_⟩) (L + 1) (fu + (2000 - L)) (gu + (2000 - L))
  · rw [show fu + (2000 - L) + (L + 1 + 1) = fu + 2002 by omega, show gu + (2000 - L) + (L + 1 + 1) = gu + 2002 by omega] at key
    exact key.2 0 μc νc (by omega) (by omega) h0 hcl fd_refl fm_refl
  · rw [hb f μ' ν' k hcy hfd (by omega), hd g μ' ν' k hcy hfd (by omega)]
    cases ht : Tt μ'
    · obtain ⟨dn, μ2, ν2, s1, s2, s3, s4, s5, s6, s7, s8, _⟩ := pr_cycle hcy hck (by omega) (fu + 1969) (gu + 1969)
      have s1' : fX9_simulateCycle (fu + 2002) 0 1 μ' = some (nI dn, μ2) := s1
      have s2' : fX13_passCycle (gu + 2002) 0 ν' = some ((), ν2) := s2
      rw [if_neg (by decide), if_neg (by decide), s1', bnd_some]
      by_cases hkL : k = L
      · rw [if_pos hkL]
        have hr : r = 0 := by omega
        refine ⟨-1, μ2, ν', ?_, rfl, fd_step hfd s7, s4.2.2.2, hfm⟩
        rw [hkL]; exact ih.1 hr μ2
      · rw [if_neg hkL, s2', bnd_some]
        exact ih.2 (k + 1) μ2 ν2 (by omega) (by omega) s4 s5 (fd_step hfd s7) (fm_trans hfm s8)
    · rw [if_pos rfl, if_pos rfl]
      exact ⟨nI k, μ', ν', rfl, rfl, hfd, hcy.2.2.2, hfm⟩
theorem fd_trans {i : Nat} {μ μ' μ'' : Mem} (h : FD i μ μ') (h2 : FD i μ' μ'') : FD i μ μ'' := by
  obtain ⟨⟨a1, a2, a3⟩, a4⟩ := h
  obtain ⟨⟨b1, b2, b3⟩, b4⟩ := h2
  refine ⟨⟨fun κ n k q => (b1 κ n k q).trans (a1 κ n k q), b2.trans a2, ?_⟩, fun κ n k q1 q2 => (b4 κ n k q1 q2).trans (a4 κ n k q1 q2)⟩
  rcases b3 with h | h
  · rw [h]; exact a3
  · exact Or.inr h
theorem c_limit_bad {x : Int32} (h : x < 0 ∨ nI 2001 ≤ x) : fX12_checkLimit x μ = some (.inl 2, μ) := by
  unfold fX12_checkLimit
  simp only [jn_eq]
  rcases bad_le (n := 2000) (by decide) h with h1 | h1
  · rw [if_pos h1]
  · by_cases h2 : x < 0
    · rw [if_pos h2]
    · rw [if_neg h2, if_neg (show ¬ x ≤ (2000 : Int32) from h1)]
theorem c_limit_ok {L : Nat} (h : L ≤ 2000) : fX12_checkLimit (nI L) μ = some (.inr (), μ) := by
  unfold fX12_checkLimit
  simp only [jn_eq]
  rw [if_neg (nI_pos (by omega)), if_pos (show nI L ≤ (2000 : Int32) from nI_le (b := 2000) h (by decide))]
theorem m_limit_bad {x : Int32} (h : x < 0 ∨ nI 2001 ≤ x) : fX13_isLimit x μ = some (0, μ) := by
  unfold fX13_isLimit
  rw [show (2000 : Int32) = nI 2000 from rfl, r_bad (by decide) h, bnd_some]
  exact ckZ_ok (Or.inl rfl)
theorem m_limit_ok {L : Nat} (h : L ≤ 2000) : fX13_isLimit (nI L) μ = some (1, μ) := by
  unfold fX13_isLimit
  rw [show (2000 : Int32) = nI 2000 from rfl, r_ok h (by decide), bnd_some]
  exact ckZ_ok (Or.inr rfl)
/-- an exception, and nothing else -/
theorem op_bad (h : Rel2 p μ ν) {k : Nat} {fc : Option (RX Int32)} {fr : Option (Int32 × Mem)} (a : fc = some (.inl k, μ)) (b : fr = some (0, wI ν 26 0 6 (nI k))) : Op p μ ν fc fr := ⟨.inl k, μ, 0, _, a, b, wI_same, h, kr_nil, kc_26⟩
theorem op_badI (h : Rel2 p μ ν) {fc : Option (RX Int32)} {fr : Option (Int32 × Mem)} (a : fc = some (.inl 2, μ)) (b : fr = some (0, wI ν 26 0 6 1)) : OpI p μ ν fc fr := ⟨.inl 2, μ, 0, _, a, b, ⟨rfl, wI_same⟩, h, kr_nil, kc_26⟩
/-! promise 35: cyclesUntil -/
theorem op_until (h : Rel2 p μ ν) (x l m : Int32) (fu gu : Nat) : Op p μ ν (fX12_cyclesUntil (fu + 2002) 0 x l m μ) (fX13_cyclesUntil (gu + 2002) 0 x l m ν) := by
  have h0 : Rel2 p μ (wI ν 26 0 6 0) := h
  obtain ⟨c, hc, cT, cC⟩ := rel2_clk h
  unfold fX12_cyclesUntil fX13_cyclesUntil
  simp only [jn_eq, nm_eq]
  rcases ix_cases x (n := 16) (by decide) with hx | ⟨q, hq, rfl⟩
  · refine op_bad h (k := 1) ?_ ?_
    · rw [bad_pin hx, bndX_inl]
    · rw [m_isPin_bad hx, bnd_some, if_neg nn0, m_raise, bnd_some, wI_wI]; rfl
  · rw [ok_pin hq, bndX_inr, m_isPin_ok hq, bnd_some, if_pos ne10]
    rcases ix_cases l (n := 2) (by decide) with hv | ⟨j, hj, rfl⟩
    · have ei : fX13_inRange l 0 1 (wI ν 26 0 6 0) = some (0, wI ν 26 0 6 0) := r_bad (n := 1) (by decide) hv
      refine op_bad h (k := 2) ?_ ?_
      · rw [c_checkLevel_bad hv, bndX_inl]
      · rw [ei, bnd_some, if_pos rfl, m_raise, bnd_some, wI_wI]; rfl
    · have ei : fX13_inRange (nI j) 0 1 (wI ν 26 0 6 0) = some (1, wI ν 26 0 6 0) := r_ok (n := 1) (by omega) (by decide)
      rw [c_checkLevel_ok hj, bndX_inr, ei, bnd_some, if_neg ne10]
      rcases ix_cases m (n := 2001) (by decide) with hm | ⟨L, hL, rfl⟩
      · refine op_bad h (k := 2) ?_ ?_
        · rw [c_limit_bad hm, bndX_inl]
        · rw [m_limit_bad hm, bnd_some, if_neg nn0, m_raise, bnd_some, wI_wI]; rfl
      · obtain ⟨s1, s2, s3, s4, s5, s6, s7⟩ := fc_start h0 cC
        have s1' : fX3_copyFrom (fu + 2002) 1 0 μ = _ := s1 (fu + 1997)
        have s2' : fX13_copy (gu + 2002) 0 0 2 0 (wI ν 26 0 6 0) = _ := s2 (gu + 1301)
        rw [c_limit_ok (by omega), bndX_inr, m_limit_ok (by omega), bnd_some, if_pos ne10, s1', bnd_some, s2', bnd_some]
        have main := fc_loop (p := p) (L := L) (c := c) (fu := fu) (gu := gu) (fun μ' => decide (b2 (lvl μ' 1 q) = nI j)) (by omega) hc
          (z := fun _ _ => none) (b := fun (j26 : Mem → Int32 → Option (RX Int32)) (μ1 : Mem) (x2 : Int32) => if nI L < x2 then some (.inr (-1 : Int32), μ1) else bnd (fX3_levels 1 μ1) fun x5 μ4 => if ¬ ((x5 >>> (nI q &&& 31)) &&& (1 : Int32)) = nI j then bnd (fX9_simulateCycle (fu + 2002) 0 1 μ4) fun _ μ7 => j26 μ7 (x2 + (1 : Int32)) else some (.inr x2, μ4))
          (y := fun _ _ => none) (d := fun (j56 : Mem → Int32 → Option (Int32 × Mem)) (μ14 : Mem) (x15 : Int32) =>
            if nI L ≤ x15 then (bnd (fX13_levelOf 0 (nI q) μ14) fun x22 μ21 => if ¬ x22 = nI j then (bnd (fX13_copy (gu + 2002) 2 0 0 0 μ21) fun _ μ20 => some ((-1 : Int32), μ20)) else (bnd (fX13_copy (gu + 2002) 2 0 0 0 μ21) fun _ μ20 => some (x15, μ20)))
            else bnd (fX13_levelOf 0 (nI q) μ14) fun x26 μ25 => if x26 = nI j then (bnd (fX13_levelOf 0 (nI q) μ25) fun x22 μ21 => if ¬ x22 = nI j then (bnd (fX13_copy (gu + 2002) 2 0 0 0 μ21) fun _ μ20 => some ((-1 : Int32), μ20)) else (bnd (fX13_copy (gu + 2002) 2 0 0 0 μ21) fun _ μ20 => some (x15, μ20)))
            else bnd (fX13_passCycle (gu + 2002) 0 μ25) fun _ μ28 => j56 μ28 (x15 + (1 : Int32)))
          (fun f μ' => if_pos (nI_lt (by omega) (by omega))) (fun f μ' ν' k hcy hfd hk => ?_) (fun g μ' ν' k hcy hfd hk => ?_) s3 s4
        · obtain ⟨v, μ2, ν2, m1, m2, m3, m4, m5⟩ := main
          obtain ⟨e1, e2, e3, e4, e5⟩ := fc_end h0 (fd_trans s5 m3) m4 m5 s6 s7
          have e1' : fX13_copy (gu + 2002) 2 0 0 0 ν2 = _ := e1 (gu + 1301)
          rw [e1', bnd_some] at m2
          exact ⟨.inr v, μ2, v, _, m1, m2, ⟨e5.trans wI_same, rfl⟩, e2, e3, kc_trans kc_26 e4⟩
        · skip
          rw [if_neg (nI_nlt hk (by omega)), c_levels, bnd_some, bit_at (by omega), bt_lvl (by omega), nI_1]
          by_cases ht : b2 (lvl μ' 1 q) = nI j
          · rw [if_neg (show ¬ ¬ b2 (lvl μ' 1 q) = nI j from fun z => z ht), decide_eq_true ht, if_pos (show true = true from rfl)]
          · rw [if_pos (show ¬ b2 (lvl μ' 1 q) = nI j from ht), decide_eq_false ht, if_neg (show ¬ false = true by decide)]
        · skip
          rw [cy_lvl hcy hq, bnd_some, bnd_some, cy_lvl hcy hq, bnd_some, nI_1]
          by_cases ht : b2 (lvl μ' 1 q) = nI j
          · rw [if_neg (show ¬ ¬ b2 (lvl μ' 1 q) = nI j from fun z => z ht), if_pos ht, decide_eq_true ht, if_pos (show true = true from rfl), ite_self]
          · rw [if_pos (show ¬ b2 (lvl μ' 1 q) = nI j from ht), if_neg ht, decide_eq_false ht, if_neg (show ¬ false = true by decide)]
            by_cases hkL : k = L
            · rw [if_pos hkL, if_pos (show nI L ≤ nI k by rw [hkL]; exact nI_le (Nat.le_refl _) (by omega))]
            · rw [if_neg hkL, if_neg (show ¬ nI L ≤ nI k from nI_ge (by omega) (by omega))]
/-! promise 36: cyclesTo -/
theorem op_to (h : Rel2 p μ ν) (x a m : Int32) (fu gu : Nat) : Op p μ ν (fX12_cyclesTo (fu + 2002) 0 x a m μ) (fX13_cyclesTo (gu + 2002) 0 x a m ν) := by
  have h0 : Rel2 p μ (wI ν 26 0 6 0) := h
  obtain ⟨c, hc, cT, cC⟩ := rel2_clk h
  unfold fX12_cyclesTo fX13_cyclesTo
  simp only [jn_eq, nm_eq]
  rcases eng2_cases h0 x with ⟨z1, z2⟩ | ⟨e, he, rfl, z1, z2, hx⟩
  · refine op_bad h (k := 1) ?_ ?_
    · rw [z1, bndX_inl]
    · rw [z2, bnd_some, if_pos rfl, m_raise, bnd_some, wI_wI]; rfl
  · obtain ⟨cnt, hcnt, t0, h5, _⟩ := h.2.1
    have t0' : (wI ν 26 0 6 0).1 27 0 (0 : Int32).toNatClampNeg = nI cnt := t0
    have hpos : 0 < cnt := by
      obtain ⟨cnt', _, t0'', _, _, hS⟩ := h.2.1
      obtain ⟨_, _, ⟨n, hn, _⟩, _⟩ := relS_1 (hS e he) hx
      have : cnt' = cnt := nI_inj (by omega) (by omega) (t0''.symm.trans t0)
      omega
    obtain ⟨c1, rfl⟩ : ∃ c1, cnt = c1 + 1 := ⟨cnt - 1, by omega⟩
    rw [z1, bndX_inr, ckB_ok (by omega), z2, bnd_some, if_neg ne10, ckI_at (i := 0) (by decide), t0', nI_pred]
    unfold fX12_checkAddress
    simp only [jn_eq, nm_eq]
    rw [h.1.2.1]
    rcases ix_cases a (n := c1 + 1) (by omega) with ha | ⟨A, hA, rfl⟩
    · refine op_bad h (k := 1) ?_ ?_
      · by_cases h1 : a < 0
        · rw [if_pos h1, bndX_inl]
        · rw [if_neg h1, ckB_ok h.1.1, h5, if_neg (Int32.not_lt.2 (ha.resolve_left h1)), bndX_inl]
      · rw [r_bad (by omega) ha, bnd_some, if_neg nn0, m_raise, bnd_some, wI_wI]; rfl
    · rw [if_neg (nI_pos (by omega)), ckB_ok h.1.1, h5, if_pos (nI_lt hA (by omega)), bndX_inr, r_ok (by omega) (by omega), bnd_some, if_pos ne10]
      rcases ix_cases m (n := 2001) (by decide) with hm | ⟨L, hL, rfl⟩
      · refine op_bad h (k := 2) ?_ ?_
        · rw [c_limit_bad hm, bndX_inl]
        · rw [m_limit_bad hm, bnd_some, if_neg nn0, m_raise, bnd_some, wI_wI]; rfl
      · obtain ⟨s1, s2, s3, s4, s5, s6, s7⟩ := fc_start h0 cC
        have s1' : fX3_copyFrom (fu + 2002) 1 0 μ = _ := s1 (fu + 1997)
        have s2' : fX13_copy (gu + 2002) 0 0 2 0 (wI ν 26 0 6 0) = _ := s2 (gu + 1301)
        rw [c_limit_ok (by omega), bndX_inr, m_limit_ok (by omega), bnd_some, if_pos ne10, s1', bnd_some, s2', bnd_some]
        have main := fc_loop (p := p) (L := L) (c := c) (fu := fu) (gu := gu) (fun μ' => decide (μ'.1 18 (4 * 1 + e) 0 = nI A)) (by omega) hc
          (z := fun _ _ => none) (b := fun (j29 : Mem → Int32 → Option (RX Int32)) (μ1 : Mem) (x2 : Int32) => if nI L < x2 then some (.inr (-1 : Int32), μ1) else ckI (nI e) 4 <| if ¬ (μ1.1 18 (4 * 1 + (nI e).toNatClampNeg) 0) = nI A then bnd (fX9_simulateCycle (fu + 2002) 0 1 μ1) fun _ μ7 => j29 μ7 (x2 + (1 : Int32)) else some (.inr x2, μ1))
          (y := fun _ _ => none) (d := fun (j64 : Mem → Int32 → Option (Int32 × Mem)) (μ14 : Mem) (x15 : Int32) =>
            if nI L ≤ x15 then (bnd (fX13_of 0 (nI e) (1 : Int32) μ14) fun x22 μ21 => if ¬ x22 = nI A then (bnd (fX13_copy (gu + 2002) 2 0 0 0 μ21) fun _ μ20 => some ((-1 : Int32), μ20)) else (bnd (fX13_copy (gu + 2002) 2 0 0 0 μ21) fun _ μ20 => some (x15, μ20)))
            else bnd (fX13_of 0 (nI e) (1 : Int32) μ14) fun x26 μ25 => if x26 = nI A then (bnd (fX13_of 0 (nI e) (1 : Int32) μ25) fun x22 μ21 => if ¬ x22 = nI A then (bnd (fX13_copy (gu + 2002) 2 0 0 0 μ21) fun _ μ20 => some ((-1 : Int32), μ20)) else (bnd (fX13_copy (gu + 2002) 2 0 0 0 μ21) fun _ μ20 => some (x15, μ20)))
            else bnd (fX13_passCycle (gu + 2002) 0 μ25) fun _ μ28 => j64 μ28 (x15 + (1 : Int32)))
          (fun f μ' => if_pos (nI_lt (by omega) (by omega))) (fun f μ' ν' k hcy hfd hk => ?_) (fun g μ' ν' k hcy hfd hk => ?_) s3 s4
        · obtain ⟨v, μ2, ν2, m1, m2, m3, m4, m5⟩ := main
          obtain ⟨e1, e2, e3, e4, e5⟩ := fc_end h0 (fd_trans s5 m3) m4 m5 s6 s7
          have e1' : fX13_copy (gu + 2002) 2 0 0 0 ν2 = _ := e1 (gu + 1301)
          rw [e1', bnd_some] at m2
          exact ⟨.inr v, μ2, v, _, m1, m2, ⟨e5.trans wI_same, rfl⟩, e2, e3, kc_trans kc_26 e4⟩
        · skip
          rw [if_neg (nI_nlt hk (by omega)), ckI_nI he (by decide), nI_clamp (by omega), nI_1]
          by_cases ht : μ'.1 18 (4 * 1 + e) 0 = nI A
          · rw [if_neg (show ¬ ¬ μ'.1 18 (4 * 1 + e) 0 = nI A from fun z => z ht), decide_eq_true ht, if_pos (show true = true from rfl)]
          · rw [if_pos (show ¬ μ'.1 18 (4 * 1 + e) 0 = nI A from ht), decide_eq_false ht, if_neg (show ¬ false = true by decide)]
        · skip
          have of1' : fX13_of 0 (nI e) 1 ν' = some (μ'.1 18 (4 * 1 + e) 0, ν') := by
            have hx' : μ'.1 8 (4 * p + e) 0 = 1 := ((fd_trans s5 hfd).2 8 _ 0 (by decide) (fun z => z.1 rfl)).trans hx
            have E := (hcy.2.2.1.2.2.2.2.2.2 e he hx').1
            have : fX13_of 0 (nI e) 1 ν' = _ := r_of (f := 1) (by omega)
            rw [this, show tN ν' (560 + 35 * e + 1) = μ'.1 18 (4 * 1 + e) 0 from E.2.2.1 0 (by decide)]
          rw [of1', bnd_some, bnd_some, of1', bnd_some, nI_1]
          by_cases ht : μ'.1 18 (4 * 1 + e) 0 = nI A
          · rw [if_neg (show ¬ ¬ μ'.1 18 (4 * 1 + e) 0 = nI A from fun z => z ht), if_pos ht, decide_eq_true ht, if_pos (show true = true from rfl), ite_self]
          · rw [if_pos (show ¬ μ'.1 18 (4 * 1 + e) 0 = nI A from ht), if_neg ht, decide_eq_false ht, if_neg (show ¬ false = true by decide)]
            by_cases hkL : k = L
            · rw [if_pos hkL, if_pos (show nI L ≤ nI k by rw [hkL]; exact nI_le (Nat.le_refl _) (by omega))]
            · rw [if_neg hkL, if_neg (show ¬ nI L ≤ nI k from nI_ge (by omega) (by omega))]
end
