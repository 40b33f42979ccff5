/-! PARSING: the names are laid -/
theorem ckI_0' {α : Type} {o : Option α} : ckI (0 : Int32) (if 1 = 4 then 7000 else 700) o = o := ckI_nI (j := 0) (by decide) (by decide)
theorem layF_S {T : Nat → Int32} {tg : Nat → Nat} {v : Nat → Int32} {m : Nat} : layF T tg v (m + 1) = fun a => if a = tg m then v m else layF T tg v m a := rfl
/-- all names stand for something: the draft becomes the row with its names -/
theorem m_layAll {N n cnt m L B : Nat} {c : Nat → Int32} {V : Nat → Option Nat} {lt la lb ll : Nat → Nat} {ν : Mem} (hT : TP N n c) (hB : BY N (ν.1 28 7) c) (hN : NM N c V B cnt m ν) (hc : cnt ≤ 32) (h0 : ν.1 27 1 0 = nI cnt) (hM : MT N cnt c lb ll ν) (hLM : LM N n cnt L c lt la lb ll) (hV : ∀ x, V x = lkG c N lt la x L 0) (hBB : B ≤ 33) (h26 : ν.1 26 0 26 = 0) (fu : Nat) :
    ∃ ν', fX13_layNames (fu + 1001) 0 ν = some ((), ν') ∧ (∀ κ a q, ¬ (κ = 27 ∧ a = 1) → ν'.1 κ a q = ν.1 κ a q) ∧ ν'.2 = ν.2 ∧ ν'.1 27 1 = TT V ν := by
  have c0 := nm_cnt hN
  have h39 := hN.1
  have hm := hN.2.1
  unfold fX13_layNames
  simp only [jn_eq, nm_eq]
  refine (lp_ind (P := fun d (f : Mem → Int32 → Option (Unit × Mem)) => ∀ y ν1, y ≤ m → m ≤ y + d → (∀ κ a q, ¬ (κ = 27 ∧ a = 1) → ν1.1 κ a q = ν.1 κ a q) → ν1.2 = ν.2 → ν1.1 27 1 = layF (ν.1 27 1) (nTg ν) (nVl V ν) y → ∃ ν', f ν1 (nI y) = some ((), ν') ∧ (∀ κ a q, ¬ (κ = 27 ∧ a = 1) → ν'.1 κ a q = ν.1 κ a q) ∧ ν'.2 = ν.2 ∧ ν'.1 27 1 = TT V ν) (fun f y ν1 hy hd e1 e2 e3 => ?_) (fun d f ih y ν1 hy hd e1 e2 e3 => ?_) 1000 fu) 0 ν (by omega) (by omega) (fun _ _ _ _ => rfl) rfl rfl
  · have ym : y = m := by omega
    refine ⟨ν1, ?_, e1, e2, by rw [e3, ym]; unfold TT; rw [c0]⟩
    rw [e1 _ _ _ (by omega), h39, if_pos (show nI m ≤ nI y from (nI_leI (by omega) (by omega)).2 (by omega))]
  · by_cases g : y < m
    · obtain ⟨⟨x, a, x1, x2, x3, x4, x5⟩, -⟩ := hN.2.2 y g
      obtain ⟨tg, t1, t2, -⟩ := nm_tg hN g
      have et : ν.1 28 12 y = nI tg := by
        obtain ⟨-, g', eg, hg⟩ := hN.2.2 y g
        have : nTg ν y = g' := by unfold nTg; rw [eg, nI_clamp (n := g') (by rcases hg with ⟨_, _, _, _⟩ | ⟨_, _, _, _⟩ <;> omega)]
        rw [eg, ← t1, this]
      have e0 : ν1.1 27 1 0 = nI cnt := by
        rw [e3]
        have : ∀ k, k ≤ m → layF (ν.1 27 1) (nTg ν) (nVl V ν) k 0 = ν.1 27 1 0 := fun k hk => layF_no k fun j hj => nf_no hN (nf0 (Or.inl (by decide))) j (by omega)
        rw [this y hy, h0]
      have hM1 : MT N cnt c lb ll ν1 := fun a ha => by
        obtain ⟨a1, a2, a3⟩ := hM a ha
        exact ⟨(e1 _ _ _ (by omega)).trans a1, (e1 _ _ _ (by omega)).trans a2, a3⟩
      have hB1 : BY N (ν1.1 28 7) c := by rw [show ν1.1 28 7 = ν.1 28 7 from funext fun q => e1 _ _ _ (by omega)]; exact hB
      have ml := m_labelled hT.2.1 hB1 x1 hc hM1 fu
      have lk : lkM c lb ll x (tkE c N x - x) cnt 0 = some a := (lk_top hT hLM x1).trans ((hV x).symm.trans x4)
      rw [lk] at ml
      rw [e1 26 0 39 (by omega), h39, if_neg (show ¬ nI m ≤ nI y from fun z => absurd ((nI_leI (by omega) (by omega)).1 z) (by omega)), e1 26 0 26 (by omega), if_neg (fun z => z h26), ckI_nI (show y < mil.getD 10 0 from (show y < 400 by omega)) (by decide), ckI_nI (show y < mil.getD 11 0 from (show y < 400 by omega)) (by decide), ckI_0', nI_clamp (n := y) (by omega), e1 28 10 y (by omega), x2, e1 28 11 y (by omega), x3]
      show ∃ ν', (bnd (fX13_labelled (fu + 1001) 0 (nI x) (nI (tkE c N x - x)) (ν1.1 27 1 0) ν1) _) = _ ∧ _
      rw [e0, ml, bnd_some, if_pos (show ¬ opN (some a) = -1 from nI_m1 (by omega)), ckI_nI (show y < mil.getD 12 0 from (show y < 400 by omega)) (by decide), e1 28 12 y (by omega), et, ckI_nI (show tg < (if 1 = 4 then 7000 else 700) from t2) (by decide), nI_clamp (n := tg) (by omega), nI_1]
      refine ih (y + 1) _ (by omega) (by omega) (fun κ a' q z => by rw [wI_o (by omega)]; exact e1 _ _ _ z) e2 ?_
      rw [layF_S]
      funext q
      rw [wI_at, t1]
      by_cases eq : q = tg
      · rw [if_pos ⟨rfl, rfl, eq⟩, if_pos eq]
        unfold nVl
        rw [x2, nI_clamp (n := x) (by have := hT.2.1; omega), x4]
        rfl
      · rw [if_neg (fun z => eq z.2.2), if_neg eq, e3]
    · have ym : y = m := by omega
      refine ⟨ν1, ?_, e1, e2, by rw [e3, ym]; unfold TT; rw [c0]⟩
      rw [e1 _ _ _ (by omega), h39, if_pos (show nI m ≤ nI y from (nI_leI (by omega) (by omega)).2 (by omega))]
/-- the k-th name is the first without a label -/
theorem m_layBad {N n cnt m L B k x : Nat} {c : Nat → Int32} {V0 V : Nat → Option Nat} {lt la lb ll : Nat → Nat} {ν : Mem} (hT : TP N n c) (hB : BY N (ν.1 28 7) c) (hN : NM N c V0 B cnt m ν) (hc : cnt ≤ 32) (h0 : ν.1 27 1 0 = nI cnt) (hM : MT N cnt c lb ll ν) (hLM : LM N n cnt L c lt la lb ll) (hL : ∀ i, i < L → la i ≤ 32) (hV : ∀ x, V x = lkG c N lt la x L 0) (h26 : ν.1 26 0 26 = 0) (hk : k < m) (hx : ν.1 28 10 k = nI x) (hxN : x < N) (hxV : V x = none) (hj : ∀ j, j < k → ∃ y a, y < N ∧ ν.1 28 10 j = nI y ∧ V y = some a) (fu : Nat) :
    ∃ ν', fX13_layNames (fu + 1001) 0 ν = some ((), ν') ∧ (∀ κ a q, ¬ (κ = 27 ∧ a = 1) → ¬ (κ = 26 ∧ a = 0 ∧ (q = 26 ∨ q = 27)) → ν'.1 κ a q = ν.1 κ a q) ∧ ν'.2 = ν.2 ∧ ν'.1 26 0 26 = 5 ∧ ν'.1 26 0 27 = nI x := by
  have h39 := hN.1
  have hm := hN.2.1
  have hN1000 := hT.2.1
  unfold fX13_layNames
  simp only [jn_eq, nm_eq]
  refine (lp_ind (P := fun d (f : Mem → Int32 → Option (Unit × Mem)) =>
      (∀ y ν1, ¬ ν1.1 26 0 26 = 0 → f ν1 y = some ((), ν1)) ∧
      ∀ y ν1, y ≤ k → k < y + d → (∀ κ a q, ¬ (κ = 27 ∧ a = 1) → ν1.1 κ a q = ν.1 κ a q) → ν1.2 = ν.2 → ν1.1 27 1 0 = nI cnt → ∃ ν', f ν1 (nI y) = some ((), ν') ∧ (∀ κ a q, ¬ (κ = 27 ∧ a = 1) → ¬ (κ = 26 ∧ a = 0 ∧ (q = 26 ∨ q = 27)) → ν'.1 κ a q = ν.1 κ a q) ∧ ν'.2 = ν.2 ∧ ν'.1 26 0 26 = 5 ∧ ν'.1 26 0 27 = nI x)
      (fun f => ⟨fun y ν1 hb => by rw [if_pos hb, ite_self], fun y ν1 hy hd => absurd hd (by omega)⟩) (fun d f ih => ⟨fun y ν1 hb => by rw [if_pos hb, ite_self], fun y ν1 hy hd e1 e2 e0 => ?_⟩) 1000 fu).2 0 ν (by omega) (by omega) (fun _ _ _ _ => rfl) rfl h0
  have ym : y < m := by omega
  obtain ⟨⟨x', a', x1, x2, x3, -, -⟩, tg, et, hg⟩ := hN.2.2 y ym
  have tl : 0 < tg ∧ tg < 700 := by rcases hg with ⟨_, _, _, _⟩ | ⟨_, _, _, _⟩ <;> omega
  have hM1 : MT N cnt c lb ll ν1 := fun a ha => by
    obtain ⟨a1, a2, a3⟩ := hM a ha
    exact ⟨(e1 _ _ _ (by omega)).trans a1, (e1 _ _ _ (by omega)).trans a2, a3⟩
  have hB1 : BY N (ν1.1 28 7) c := by rw [show ν1.1 28 7 = ν.1 28 7 from funext fun q => e1 _ _ _ (by omega)]; exact hB
  have ml := m_labelled hT.2.1 hB1 x1 hc hM1 fu
  have lk : lkM c lb ll x' (tkE c N x' - x') cnt 0 = V x' := (lk_top hT hLM x1).trans (hV x').symm
  rw [lk] at ml
  rw [e1 26 0 39 (by omega), h39, if_neg (show ¬ nI m ≤ nI y from fun z => absurd ((nI_leI (by omega) (by omega)).1 z) (by omega)), e1 26 0 26 (by omega), if_neg (fun z => z h26), ckI_nI (show y < mil.getD 10 0 from (show y < 400 by omega)) (by decide), ckI_nI (show y < mil.getD 11 0 from (show y < 400 by omega)) (by decide), ckI_0', nI_clamp (n := y) (by omega), e1 28 10 y (by omega), x2, e1 28 11 y (by omega), x3]
  show ∃ ν', (bnd (fX13_labelled (fu + 1001) 0 (nI x') (nI (tkE c N x' - x')) (ν1.1 27 1 0) ν1) _) = _ ∧ _
  rw [e0, ml, bnd_some]
  by_cases g : y = k
  · subst g
    have xx : x' = x := nI_inj (by omega) (by omega) (x2.symm.trans hx)
    subst xx
    rw [hxV, if_neg (show ¬ ¬ opN none = -1 from fun z => z rfl), ckI_nI (show y < mil.getD 10 0 from (show y < 400 by omega)) (by decide), ih.1 _ _ (by rw [wI_o (by omega), wI_same]; decide)]
    refine ⟨_, rfl, fun κ a q z w => by rw [wI_o (by omega), wI_o (by omega)]; exact e1 _ _ _ z, e2, by rw [wI_o (by omega), wI_same], ?_⟩
    rw [wI_same, wI_o (by omega), e1 _ _ _ (by omega)]
    exact hx
  · obtain ⟨y', a, y1, y2, y3⟩ := hj y (by omega)
    have xx : x' = y' := nI_inj (by omega) (by omega) (x2.symm.trans y2)
    subst xx
    have la32 : a ≤ 32 := by
      have : ∀ d i, i + d = L → lkG c N lt la x' d i = some a → a ≤ 32 := by
        intro d
        induction d with
        | zero => intro i _ h; exact absurd h (by simp [lkG])
        | succ d ih =>
          intro i hi h
          rw [lkG] at h
          by_cases g : smT c N x' (tkP c N (lt i)) = true
          · rw [if_pos g] at h
            have e := Option.some.inj h
            have := hL i (by omega)
            omega
          · rw [if_neg g] at h
            exact ih (i + 1) (by omega) h
      exact this L 0 (by omega) ((hV x').symm.trans y3)
    rw [y3, if_pos (show ¬ opN (some a) = -1 from nI_m1 (by omega)), ckI_nI (show y < mil.getD 12 0 from (show y < 400 by omega)) (by decide), e1 28 12 y (by omega), et, ckI_nI (show tg < (if 1 = 4 then 7000 else 700) from tl.2) (by decide), nI_clamp (n := tg) (by omega), nI_1]
    exact ih.2 (y + 1) _ (by omega) (by omega) (fun κ a' q z => by rw [wI_o (by omega)]; exact e1 _ _ _ z) e2 (by rw [wI_o (by omega)]; exact e0)
theorem m_layErr {fu : Nat} {ν : Mem} (h : ¬ ν.1 26 0 26 = 0) : fX13_layNames (fu + 1) 0 ν = some ((), ν) := by
  unfold fX13_layNames
  simp only [jn_eq, nm_eq]
  rw [lp_succ, if_pos h, ite_self]
