/-! THE LAW'S CASE 38: format -/
theorem stL_sbq {c : Nat} {μ : Mem} (h : SBQ c μ) : SBQ 0 (stL c μ) := by
  obtain ⟨p1, p2, p3, p4, p5, p6⟩ := h
  have eb : bcap (stL c μ) = bcap μ := by unfold bcap; rw [stL_r]
  have e3 : (stL c μ).1 32 0 3 = 0 := wI_same
  refine ⟨?_, by rw [eb]; exact p2, Nat.zero_le _, Nat.zero_le _, e3, fun k hk => ?_⟩
  · unfold stL
    rw [wI_o (by omega)]
    split
    · exact p1
    · rw [wI_o (by omega)]; exact p1
  · rw [stL_o (by decide)]
    exact p6 k (by rw [← eb]; exact hk)
theorem sbq_eq {c : Nat} {μ μ' : Mem} (h1 : ∀ k, μ'.1 32 0 k = μ.1 32 0 k) (h2 : ∀ k, μ'.1 33 0 k = μ.1 33 0 k) (h3 : μ'.2.1 33 0 0 = μ.2.1 33 0 0) (h : SBQ c μ) : SBQ c μ' := by
  obtain ⟨p1, p2, p3, p4, p5, p6⟩ := h
  have eb : bcap μ' = bcap μ := h3
  exact ⟨(h1 1).trans p1, by rw [eb]; exact p2, by rw [eb]; exact p3, p4, (h1 3).trans p5, fun k hk => by rw [h2 k]; exact p6 k (by rw [← eb]; exact hk)⟩
/-- the class's format -/
theorem c_fmt {p x cnt c : Nat} {μ : Mem} (hp : p < 2) (h4 : μ.2.1 0 0 4 = p) (h5 : μ.1 5 p 0 = nI cnt) (hcnt : cnt ≤ 32) (hx : x < cnt) (hS : SBQ c μ) (H : IOK (μ.1 9 (33 * p + x)) (μ.2.1 9 (33 * p + x))) :
    ∃ μ1, fFm c x μ = some (nI (flt (rsI (μ.1 9 (33 * p + x)) (μ.2.1 9 (33 * p + x)))).length, μ1) ∧ SBQ (flt (rsI (μ.1 9 (33 * p + x)) (μ.2.1 9 (33 * p + x)))).length μ1 ∧ (∀ k, k < (flt (rsI (μ.1 9 (33 * p + x)) (μ.2.1 9 (33 * p + x)))).length → μ1.1 33 0 k = (flt (rsI (μ.1 9 (33 * p + x)) (μ.2.1 9 (33 * p + x)))).getD k 0) ∧ (∀ a b, a ≠ 32 → a ≠ 33 → μ1.1 a b = μ.1 a b ∧ μ1.2.1 a b = μ.2.1 a b) ∧ μ1.2.2 = μ.2.2 := by
  obtain ⟨l1, l2⟩ := rsI_ok H
  obtain ⟨μ1, g1, g2, -, g4⟩ := apS_ok (rsI (μ.1 9 (33 * p + x)) (μ.2.1 9 (33 * p + x))) (stL_sbq hS) (by omega) l2
  rw [Nat.zero_add] at g2
  refine ⟨μ1, ?_, g2, fun k hk => ?_, fun a b ha hb => ?_, ?_⟩
  · unfold fFm
    rw [h4, grd_ok ⟨⟨hp, by omega, by rw [h5]; exact nI_lt hx (by omega)⟩, hS, H⟩, g1, bnd_some, g2.2.2.2.2.1]
  · have := g4 k hk
    rw [Nat.zero_add] at this
    exact this
  · obtain ⟨e1, e2⟩ := apS_o _ g1 a b ha hb
    exact ⟨e1.trans (funext fun k => stL_o ha), e2.trans (by rw [stL_r])⟩
  · rw [apS_l _ g1, stL_r]
theorem chk_bad {x : Int32} {p cnt : Nat} {μ : Mem} (hp : p < 2) (h4 : μ.2.1 0 0 4 = p) (h5 : μ.1 5 p 0 = nI cnt) (hx : x < 0 ∨ nI cnt ≤ x) : fX12_checkAddress 0 x μ = some (.inl 1, μ) := by
  unfold fX12_checkAddress
  rw [jn_eq]
  by_cases h : x < 0
  · rw [if_pos h]
  · rcases hx with hx | hx
    · exact absurd hx h
    · rw [if_neg h, nm_eq, h4, ckB_ok hp, h5, if_neg (Int32.not_lt.mpr hx)]
/-- what the relation looks at, of the model's -/
def cutM2 (ν : Mem) : Mem := (fun κ n k => if κ = 27 ∨ (κ = 28 ∧ n = 7) ∨ (κ = 26 ∧ n = 0 ∧ (k = 5 ∨ k = 7 ∨ k = 21 ∨ k = 28)) then ν.1 κ n k else 0, fun _ _ _ => 0, fun _ _ _ => 0)
theorem rel2_cut2 {p : Nat} {μ ν : Mem} : Rel2 p μ ν = Rel2 p (cutC μ) (cutM2 ν) := rfl
theorem cutM2_eq {ν ν' : Mem} (h : ∀ κ n k, κ = 27 ∨ (κ = 28 ∧ n = 7) ∨ (κ = 26 ∧ n = 0 ∧ (k = 5 ∨ k = 7 ∨ k = 21 ∨ k = 28)) → ν'.1 κ n k = ν.1 κ n k) : cutM2 ν' = cutM2 ν := by
  unfold cutM2
  refine Prod.ext (funext fun κ => funext fun n => funext fun k => ?_) rfl
  show (if κ = 27 ∨ (κ = 28 ∧ n = 7) ∨ (κ = 26 ∧ n = 0 ∧ (k = 5 ∨ k = 7 ∨ k = 21 ∨ k = 28)) then ν'.1 κ n k else 0) = if κ = 27 ∨ (κ = 28 ∧ n = 7) ∨ (κ = 26 ∧ n = 0 ∧ (k = 5 ∨ k = 7 ∨ k = 21 ∨ k = 28)) then ν.1 κ n k else 0
  by_cases q : κ = 27 ∨ (κ = 28 ∧ n = 7) ∨ (κ = 26 ∧ n = 0 ∧ (k = 5 ∨ k = 7 ∨ k = 21 ∨ k = 28))
  · rw [if_pos q, if_pos q, h κ n k q]
  · rw [if_neg q, if_neg q]
theorem rel_far {p : Nat} {μ μ' : Mem} (h1 : ∀ κ n k, κ < 26 → μ'.1 κ n k = μ.1 κ n k) (h2 : ∀ κ n k, κ < 26 → μ'.2.1 κ n k = μ.2.1 κ n k) (h3 : ∀ κ n k, κ = 27 ∨ (κ = 28 ∧ n = 7) ∨ (κ = 26 ∧ n = 0 ∧ (k = 5 ∨ k = 7 ∨ k = 21 ∨ k = 28)) → μ'.1 κ n k = μ.1 κ n k) (h : Rel p μ) : Rel p μ' := by
  unfold Rel at h ⊢
  rw [rel2_cut2] at h ⊢
  rw [cutC_eq h1 h2, cutM2_eq h3]
  exact h
theorem lk_38 : CaseOKP Inv 2449 := by
  intro X hT V C Pv R0 hN bs SL xs S ca sl k c1 c2 c3 c4 μ hI H0
  obtain ⟨p, hR, hI2⟩ := id hI
  obtain ⟨hF, c, hS, hc, hb⟩ := id hI2
  obtain ⟨⟨hp, h4, -⟩, ⟨cnt, hcnt, t0, h5, hins, -⟩, -, -, -, -, -, -, h9, -, -⟩ := id hR
  have ek : nI (6 * k) + (1 : Int32) = nI (6 * k + 1) := nI_1 _
  have hi : ¬ (nI (6 * k) + (1 : Int32) < 0 ∨ SL ≤ (nI (6 * k) + (1 : Int32)).toNatClampNeg) := by
    rw [ek]
    exact nI_in (by omega) (by omega)
  have ckS : ∀ {α : Type} (o : Option α), ckI (nI (6 * k) + (1 : Int32)) SL o = o := fun o => if_pos hi
  have c0 : ∀ {α : Type} (o : Option α), ckI (0 : Int32) 1 o = o := fun o => if_pos (by decide)
  rcases ix_cases (xs (nI (6 * k) + (1 : Int32)).toNatClampNeg) (n := cnt) (by omega) with hx | ⟨x, hx, ex⟩
  · -- the address is bad: both throw
    have hI' : Inv (wI μ 26 0 6 1) := ⟨p, rel_thrown hR, inv2_t hI2⟩
    have h0 := H0 (xa X 33 0) (wI μ 26 0 6 1) (by rw [sx_self]; exact C) hI'
    rw [sx_self] at h0
    refine bz38 hT V C R0 hN S 3000 c1 c2 (nI (6 * k)) μ (wI μ 26 0 6 1) h0 ?_
    unfold cb38 fLb
    rw [ckS, chk_bad hp h4 h5 hx, bndX_inl, catX_inl, if_pos rfl, bnd_some]
    unfold tl38
    rw [ckS, kJ_id (μ := μ) (μ1 := μ) rfl rfl (fun _ _ _ _ => rfl), m_fmt_bad hcnt t0 hx, bndJ_some]
    rw [kJ_wI, thrown_eq, kJ_wI, bndJ_some]
    rw [show kJ (wI μ 26 0 6 1) (wI μ 26 0 6 1) = wI μ 26 0 6 1 from kJ_id rfl rfl (fun _ _ _ _ => rfl), wI_same, if_pos rfl, jn_eq, if_pos ne10]
  · -- the address is good
    have hI9 : relI μ (33 * p + x) cnt (fun k => tN μ (284 + 6 * x + k)) := hins x hx
    have h9' := h9 (33 * p + x) (by omega)
    have H := iok_of hcnt h9' hI9
    obtain ⟨μ1, g1, g2, g3, g4, g5⟩ := c_fmt hp h4 h5 hcnt hx hS H
    obtain ⟨l1, l2⟩ := rsI_ok H
    have hg : fLg c x μ = some (0, wJ μ1 31 0 (0 : Int32).toNatClampNeg (nI (flt (rsI (μ.1 9 (33 * p + x)) (μ.2.1 9 (33 * p + x)))).length).toInt64) := by
      unfold fLg
      rw [g1, bnd_some]
    have n27 : ∀ q, (kJ μ (wJ μ1 31 0 (0 : Int32).toNatClampNeg (nI (flt (rsI (μ.1 9 (33 * p + x)) (μ.2.1 9 (33 * p + x)))).length).toInt64)).1 27 0 q = μ.1 27 0 q := fun q => congrFun (g4 27 0 (by decide) (by decide)).1 q
    have hm := m_format (fu := 2987) (j := 33 * p + x) (μ := μ) (ν := kJ μ (wJ μ1 31 0 (0 : Int32).toNatClampNeg (nI (flt (rsI (μ.1 9 (33 * p + x)) (μ.2.1 9 (33 * p + x)))).length).toInt64)) hcnt hx ((n27 0).trans t0) h9' (relI_T (fun q _ => n27 _) hI9)
    generalize flt (rsI (μ.1 9 (33 * p + x)) (μ.2.1 9 (33 * p + x))) = T at *
    generalize e2 : wJ μ1 31 0 (0 : Int32).toNatClampNeg (nI T.length).toInt64 = μ2 at *
    have o1 : μ2.1 = μ1.1 := by rw [← e2]; rfl
    have o2 : μ2.2.1 = μ1.2.1 := by rw [← e2]; rfl
    have o3 : μ2.2.2 31 0 (0 : Int32).toNatClampNeg = (nI T.length).toInt64 := by rw [← e2]; exact wJ_at
    generalize e3 : kJ μ2 (wM T (wI (kJ μ μ2) 26 0 6 0)) = μ3
    have p1 : μ3.1 = (wM T (wI (kJ μ μ2) 26 0 6 0)).1 := by rw [← e3]; rfl
    have p2 : μ3.2.1 = μ1.2.1 := by rw [← e3]; exact o2
    have p3 : μ3.2.2 31 0 (0 : Int32).toNatClampNeg = (nI T.length).toInt64 := by rw [← e3]; exact o3
    have q1 : ∀ a b q, ¬ (a = 28 ∧ b = 13) → ¬ (a = 26 ∧ b = 0 ∧ q = 41) → ¬ (a = 26 ∧ b = 0 ∧ q = 6) → μ3.1 a b q = μ1.1 a b q := fun a b q n1 n2 n3 => by
      rw [p1, wM_o n1 n2, wI_o n3]
      show μ2.1 a b q = _
      rw [o1]
    have q6 : μ3.1 26 0 6 = 0 := by rw [p1, wM_o (by omega) (by omega)]; exact wI_same
    have ht : tl38 3000 xs SL (nI (6 * k)) μ 0 μ2 = some (kJ μ3 (kJ μ μ3)) := by
      unfold tl38
      rw [ckS, ex]
      rw [show fX13_format 3000 0 (nI x) (kJ μ μ2) = some (nI T.length, wM T (wI (kJ μ μ2) 26 0 6 0)) from hm, bndJ_some, e3, thrown_eq, bndJ_some]
      rw [show (kJ μ μ3).1 26 0 6 = 0 from q6, if_pos rfl, jn_eq, if_neg nn0, c0]
      rw [show (kJ μ3 (kJ μ μ3)).2.2 31 0 (0 : Int32).toNatClampNeg = (nI T.length).toInt64 from p3, lg_self, if_pos rfl]
    have r1 : (kJ μ3 (kJ μ μ3)).1 = μ3.1 := rfl
    have r2 : (kJ μ3 (kJ μ μ3)).2.1 = μ3.2.1 := rfl
    have hI' : Inv (kJ μ3 (kJ μ μ3)) := by
      refine ⟨p, rel_far (fun κ n q hκ => ?_) (fun κ n q hκ => ?_) (fun κ n q hκ => ?_) hR, ?_, T.length, ?_, ?_, fun q hq => ?_⟩
      · rw [r1, q1 κ n q (by omega) (by omega) (by omega), (g4 κ n (by omega) (by omega)).1]
      · rw [r2, p2, (g4 κ n (by omega) (by omega)).2]
      · rw [r1, q1 κ n q (by omega) (by omega) (by omega), (g4 κ n (by omega) (by omega)).1]
      · intro i a b
        rw [r1, q1 28 14 i (by omega) (by omega) (by omega), (g4 28 14 (by omega) (by omega)).1]
        exact hF i a b
      · exact sbq_eq (fun q => by rw [r1, q1 32 0 q (by omega) (by omega) (by omega)]) (fun q => by rw [r1, q1 33 0 q (by omega) (by omega) (by omega)]) (by rw [r2, p2]) g2
      · rw [r1, p1, wM_c]
      · have e28 : (kJ μ3 (kJ μ μ3)).1 28 13 q = T.getD q 0 := by rw [r1, p1, wM_at hq]
        rw [e28]
        refine ⟨?_, l2 _ (getD_mem hq)⟩
        rw [r1, q1 33 0 q (by omega) (by omega) (by omega)]
        exact g3 q hq
    refine gz38 (c := c) (x := x) hT V C Pv R0 hN S c1 c2 (nI (6 * k)) hi ex 3000 μ μ2 (kJ μ3 (kJ μ μ3)) hg ht (fun w Cw => ?_)
    exact H0 w (kJ μ3 (kJ μ μ3)) Cw hI'
