/-! promise 37: period -/
section
variable {p : Nat} {μ ν : Mem}
theorem op_period (h : Rel2 p μ ν) (x m : Int32) (fu gu : Nat) : Op p μ ν (fX12_period (fu + 2002) 0 x m μ) (fX13_period (gu + 2002) 0 x m ν) := by
  have h0 : Rel2 p μ (wI ν 26 0 6 0) := h
  obtain ⟨c, hc, cT, cC⟩ := rel2_clk h
  unfold fX12_period fX13_period
  simp only [jn_eq, nm_eq]
  rcases ix_cases x (n := 16) (by decide) with hx | ⟨q, hq, rfl⟩
  · refine op_bad h (k := 1) ?_ ?_
    · rw [bad_pin hx, bndX_inl]
    · rw [m_isPin_bad hx, bnd_some, if_neg nn0, m_raise, bnd_some, wI_wI]; rfl
  · rw [ok_pin hq, bndX_inr, m_isPin_ok hq, bnd_some, if_pos ne10]
    rcases ix_cases m (n := 2001) (by decide) with hm | ⟨L, hL, rfl⟩
    · refine op_bad h (k := 2) ?_ ?_
      · rw [c_limit_bad hm, bndX_inl]
      · rw [m_limit_bad hm, bnd_some, if_neg nn0, m_raise, bnd_some, wI_wI]; rfl
    · obtain ⟨s1, s2, s3, s4, s5, s6, s7⟩ := fc_start h0 cC
      have s1' : fX3_copyFrom (fu + 2002) 1 0 μ = _ := s1 (fu + 1997)
      have s2' : fX13_copy (gu + 2002) 0 0 2 0 (wI ν 26 0 6 0) = _ := s2 (gu + 1301)
      rw [c_limit_ok (by omega), bndX_inr, m_limit_ok (by omega), bnd_some, if_pos ne10, s1', bnd_some, s2', bnd_some, c_levels, bnd_some, bit_at (by omega), bt_lvl (by omega)]
      generalize hμc : cpS (tau 0) (sC 1) μ = μc at s3 s4 s5 s1' ⊢
      generalize hνc : rwP 0 0 2 0 700 (wI ν 26 0 6 0) = νc at s3 s6 s7 s2' ⊢
      have key := lp_ind2 (z := fun (_ : Mem) (_ : Int32) (_ : Int32) (_ : Int32) => (none : Option (RX Int32))) (y := fun (_ : Mem) (_ : Int32) (_ : Int32) (_ : Int32) => (none : Option (Int32 × Mem)))
        (b := fun (j37 : Mem → Int32 → Int32 → Int32 → Option (RX Int32)) (μ1 : Mem) (x2 x3 x4 : Int32) => if nI L ≤ x4 then some (.inr (-1 : Int32), μ1) else bnd (fX9_simulateCycle (fu + 2002) 0 1 μ1) fun _ μ11 => bnd (fX3_levels 1 μ11) fun x14 μ13 =>
          if ¬ ((x14 >>> (nI q &&& 31)) &&& (1 : Int32)) = (1 : Int32) then j37 μ13 ((x14 >>> (nI q &&& 31)) &&& (1 : Int32)) x3 (x4 + (1 : Int32)) else if ¬ x2 = 0 then j37 μ13 ((x14 >>> (nI q &&& 31)) &&& (1 : Int32)) x3 (x4 + (1 : Int32))
          else if x3 = (-1 : Int32) then j37 μ13 ((x14 >>> (nI q &&& 31)) &&& (1 : Int32)) x4 (x4 + (1 : Int32)) else some (.inr (x4 - x3), μ13))
        (c := fun (j52 : Mem → Int32 → Int32 → Int32 → Option (Int32 × Mem)) (μ8 : Mem) (x9 x10 x11 : Int32) => if nI L < x11 then (bnd (fX13_copy (gu + 2002) 2 0 0 0 μ8) fun _ μ14 => some (x10, μ14)) else if ¬ x10 = (-1 : Int32) then (bnd (fX13_copy (gu + 2002) 2 0 0 0 μ8) fun _ μ14 => some (x10, μ14)) else
          bnd (fX13_levelOf 0 (nI q) μ8) fun x23 μ22 => bnd (fX13_passCycle (gu + 2002) 0 μ22) fun _ μ24 => if ¬ x23 = 0 then j52 μ24 x9 x10 (x11 + (1 : Int32)) else bnd (fX13_levelOf 0 (nI q) μ24) fun x27 μ26 => if ¬ x27 = (1 : Int32) then j52 μ26 x9 x10 (x11 + (1 : Int32))
          else if ¬ x9 = (-1 : Int32) then (if ¬ x9 = (-1 : Int32) then j52 μ26 x9 (x11 - x9) (x11 + (1 : Int32)) else j52 μ26 x11 (x11 - x9) (x11 + (1 : Int32))) else (if ¬ x9 = (-1 : Int32) then j52 μ26 x9 (-1 : Int32) (x11 + (1 : Int32)) else j52 μ26 x11 (-1 : Int32) (x11 + (1 : Int32))))
        (P := fun r f g => (∀ ν' x9 v k, ¬ v = (-1 : Int32) → g ν' x9 v k = (bnd (fX13_copy (gu + 2002) 2 0 0 0 ν') fun _ μ14 => some (v, μ14))) ∧
          ∀ (k : Nat) (x3 x9 : Int32) (μ' ν' : Mem), k + r = L → CY p 1 μ' ν' → μ'.1 12 1 0 = nI (c + k) → FD 1 μc μ' → FM νc ν' → ((x3 = -1 ∧ x9 = -1) ∨ ∃ a : Nat, a < k ∧ x3 = nI a ∧ x9 = nI (a + 1)) →
          ∃ v μ2 ν2, f μ' (b2 (lvl μ' 1 q)) x3 (nI k) = some (.inr v, μ2) ∧ g ν' x9 (-1) (nI (k + 1)) = (bnd (fX13_copy (gu + 2002) 2 0 0 0 ν2) fun _ μ14 => some (v, μ14)) ∧ FD 1 μc μ2 ∧ okM 1 μ2 ∧ FM νc ν2)
        (fun f g => ⟨fun ν' x9 v k hv => ?_, fun k x3 x9 μ' ν' hk hcy hck hfd hfm hx => ?_⟩) (fun r f g ih => ⟨fun ν' x9 v k hv => ?_, fun k x3 x9 μ' ν' hk hcy hck hfd hfm hx => ?_⟩) L (fu + (2001 - L)) (gu + (2001 - L))
      · rw [show fu + (2001 - L) + (L + 1) = fu + 2002 by omega, show gu + (2001 - L) + (L + 1) = gu + 2002 by omega] at key
        obtain ⟨v, μ2, ν2, m1, m2, m3, m4, m5⟩ := key.2 0 (-1) (-1) μc νc (by omega) s3 s4 fd_refl fm_refl (Or.inl ⟨rfl, rfl⟩)
        rw [← hνc] at m5 s6 s7
        obtain ⟨e1, e2, e3, e4, e5⟩ := fc_end h0 (fd_trans s5 m3) m4 m5 s6 s7
        have e1' : fX13_copy (gu + 2002) 2 0 0 0 ν2 = _ := e1 (gu + 1301)
        rw [e1', bnd_some] at m2
        refine ⟨.inr v, μ2, v, _, ?_, ?_, ⟨e5.trans wI_same, rfl⟩, e2, e3, kc_trans kc_26 e4⟩
        · have hl : lvl μ 1 q = lvl μ 1 q := rfl
          exact m1
        · exact m2
      · show (if nI L < k then _ else _) = _
        rw [if_pos hv, ite_self]
      · have : k = L := by omega
        subst this
        refine ⟨-1, μ', ν', if_pos (nI_le (Nat.le_refl _) (by omega)), if_pos (nI_lt (by omega) (by omega)), hfd, hcy.2.2.2, hfm⟩
      · show (if nI L < k then _ else _) = _
        rw [if_pos hv, ite_self]
      · obtain ⟨dn, μ2, ν2, t1, t2, t3, t4, t5, t6, t7, t8, _⟩ := pr_cycle hcy hck (by omega) (fu + 1969) (gu + 1969)
        have t1' : fX9_simulateCycle (fu + 2002) 0 1 μ' = some (nI dn, μ2) := t1
        have t2' : fX13_passCycle (gu + 2002) 0 ν' = some ((), ν2) := t2
        have nL : ¬ nI L ≤ nI k := nI_ge (by omega) (by omega)
        have nL2 : ¬ nI L < nI (k + 1) := nI_nlt (by omega) (by omega)
        have n1 : ¬ ¬ (-1 : Int32) = -1 := fun z => z rfl
        have rec0 := fun (y3 y9 : Int32) hx => ih.2 (k + 1) y3 y9 μ2 ν2 (by omega) t4 t5 (fd_step hfd t7) (fm_trans hfm t8) hx
        dsimp only
        rw [if_neg nL, if_neg nL2, if_neg n1, t1', bnd_some, c_levels, bnd_some, bit_at (by omega), bt_lvl (by omega), cy_lvl hcy hq, bnd_some, t2', bnd_some, cy_lvl t4 hq, bnd_some, nI_1, nI_1]
        have same : ∃ v μ3 ν3, f μ2 (b2 (lvl μ2 1 q)) x3 (nI (k + 1)) = some (.inr v, μ3) ∧ g ν2 x9 (-1) (nI (k + 1 + 1)) = (bnd (fX13_copy (gu + 2002) 2 0 0 0 ν3) fun _ μ14 => some (v, μ14)) ∧ FD 1 μc μ3 ∧ okM 1 μ3 ∧ FM νc ν3 :=
          rec0 x3 x9 (hx.imp id fun ⟨a, ha, e⟩ => ⟨a, by omega, e⟩)
        cases hb : lvl μ' 1 q <;> cases ha : lvl μ2 1 q <;> rw [ha] at same rec0
        · rw [if_pos (show ¬ b2 false = 1 by decide), if_neg (show ¬ ¬ b2 false = 0 by decide), if_pos (show ¬ b2 false = 1 by decide)]
          exact same
        · rw [if_neg (show ¬ ¬ b2 true = 1 from fun z => z rfl), if_neg (show ¬ ¬ b2 false = 0 by decide), if_neg (show ¬ ¬ b2 false = 0 by decide), if_neg (show ¬ ¬ b2 true = 1 from fun z => z rfl)]
          rcases hx with ⟨rfl, rfl⟩ | ⟨a, hak, rfl, rfl⟩
          · rw [if_pos rfl, if_neg n1, if_neg n1]
            exact rec0 (nI k) (nI (k + 1)) (Or.inr ⟨k, by omega, rfl, rfl⟩)
          · have na : ¬ nI a = -1 := nI_m1 (by omega)
            have na1 : ¬ nI (a + 1) = -1 := nI_m1 (by omega)
            rw [if_neg na, if_pos na1, if_pos na1, pk_sub (by omega), pk_sub (by omega)]
            refine ⟨nI (k - a), μ2, ν2, rfl, ?_, fd_step hfd t7, t4.2.2.2, fm_trans hfm t8⟩
            rw [show k + 1 - (a + 1) = k - a by omega]
            exact ih.1 _ _ _ _ (nI_m1 (by omega))
        · rw [if_pos (show ¬ b2 false = 1 by decide), if_pos (show ¬ b2 true = 0 by decide)]
          exact same
        · rw [if_neg (show ¬ ¬ b2 true = 1 from fun z => z rfl), if_pos (show ¬ b2 true = 0 by decide), if_pos (show ¬ b2 true = 0 by decide)]
          exact same
end
