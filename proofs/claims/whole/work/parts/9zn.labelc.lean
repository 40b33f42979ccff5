/-! PARSING: a label, both -/
theorem lab_w {cnt : Nat} {ν : Mem} {x l : Int32} (hc : cnt ≤ 32) : (if (32 : Int32) ≤ nI cnt then some ((), ν) else ckI (nI cnt) (mil.getD 8 0) (ckI (nI cnt) (mil.getD 9 0) (some ((), wI (wI ν 28 8 (nI cnt).toNatClampNeg x) 28 9 (nI cnt).toNatClampNeg l)))) = some ((), labM ν cnt x l) := by
  unfold labM
  by_cases g : cnt < 32
  · rw [if_neg (show ¬ (32 : Int32) ≤ nI cnt from fun z => absurd ((nI_leI (a := 32) (by decide) (by omega)).1 z) (by omega)), ckI_nI (show cnt < mil.getD 8 0 from g) (by decide), ckI_nI (show cnt < mil.getD 9 0 from g) (by decide), nI_clamp (n := cnt) (by omega), if_pos g]
  · rw [if_pos (show (32 : Int32) ≤ nI cnt from (nI_leI (a := 32) (by decide) (by omega)).2 (by omega)), if_neg g]
theorem pg_24 {N n t : Nat} {c : Nat → Int32} {μ ν : Mem} (h : PG N n c t μ ν) : ν.1 26 0 24 = nI (tkP c N t) ∧ tkP c N t ≤ 1000 := by
  have hT := h.1
  have hN := hT.2.1
  obtain ⟨-, a1, a2⟩ := h.2.2.2.2.2.1
  by_cases g : t < n
  · rw [if_pos g] at a2; exact ⟨a2.1, by have := hT.2.2.1 t g; omega⟩
  · rw [if_neg g] at a2; rw [a2.1, show t = n by omega, hT.2.2.2]; exact ⟨rfl, hN⟩
theorem m_lab0 {N n t cnt : Nat} {c : Nat → Int32} {μ ν : Mem} (h : PG N n c t μ ν) (q : ¬ syA N n c t = 2) (h0 : ν.1 27 1 0 = nI cnt) (hc : cnt ≤ 32) (fu : Nat) : fX13_readLabel (fu + 1001) 0 ν = some ((), labM ν cnt (nI (tkP c N t)) 0) := by
  have ei : fX13_isName (fu + 1001) 0 ν = _ := p_isName h (fu + 951)
  unfold fX13_readLabel
  simp only [jn_eq, nm_eq]
  rw [show ∀ {α : Type} (o : Option α), ckI (0 : Int32) (if 1 = 4 then 7000 else 700) o = o from fun o => ckI_nI (j := 0) (by decide) (by decide), ei, bnd_some, if_neg q, if_pos (show (0 : Int32) = 0 from rfl), if_pos (show (0 : Int32) ≤ 0 by decide)]
  show (if (32 : Int32) ≤ ν.1 27 1 0 then some ((), ν) else ckI (ν.1 27 1 0) (mil.getD 8 0) (ckI (ν.1 27 1 0) (mil.getD 9 0) (some ((), wI (wI ν 28 8 (ν.1 27 1 0).toNatClampNeg (ν.1 26 0 24)) 28 9 (ν.1 27 1 0).toNatClampNeg 0)))) = _
  rw [h0, (pg_24 h).1]
  exact lab_w hc
/-- what the model does at a name: r what it finds of it -/
theorem m_lab1 {N n t cnt : Nat} {c : Nat → Int32} {lb ll : Nat → Nat} {μ ν : Mem} (h : PG N n c t μ ν) (q : syA N n c t = 2) (h0 : ν.1 27 1 0 = nI cnt) (hc : cnt ≤ 32) (hM : MT N cnt c lb ll ν) (fu : Nat) : fX13_readLabel (fu + 1001) 0 ν =
    bnd (fX13_check 0 (if lkM c lb ll (tkP c N t) (tkE c N (tkP c N t) - tkP c N t) cnt 0 = none then 1 else 0) 4 ν) fun _ μ16 => bnd (fX13_advance (fu + 1001) 0 μ16) fun _ μ17 => bnd (fX13_expect (fu + 1001) 0 58 μ17) fun _ μ18 => some ((), labM μ18 cnt (nI (tkP c N t)) (nI (tkE c N (tkP c N t) - tkP c N t))) := by
  have ei : fX13_isName (fu + 1001) 0 ν = _ := p_isName h (fu + 951)
  obtain ⟨tn, -⟩ := sy_2 q
  have xl := h.1.2.2.1 t tn
  have hN := h.1.2.1
  have gx := tk_gt (c := c) xl
  have w3 := h.2.2.2.2.2.1.2.2
  rw [if_pos tn] at w3
  have el : ν.1 26 0 23 - ν.1 26 0 24 = nI (tkE c N (tkP c N t) - tkP c N t) := by rw [w3.1, w3.2.1]; exact pk_sub (by omega)
  have ml := m_labelled hN h.2.2.2.2.2.2 xl hc hM fu
  unfold fX13_readLabel
  simp only [jn_eq, nm_eq]
  rw [show ∀ {α : Type} (o : Option α), ckI (0 : Int32) (if 1 = 4 then 7000 else 700) o = o from fun o => ckI_nI (j := 0) (by decide) (by decide), ei, bnd_some, if_pos q, if_neg (show ¬ (1 : Int32) = 0 by decide), el, w3.1]
  show (if nI (tkE c N (tkP c N t) - tkP c N t) ≤ 0 then _ else bnd (fX13_labelled (fu + 1001) 0 (nI (tkP c N t)) (nI (tkE c N (tkP c N t) - tkP c N t)) (ν.1 27 1 0) ν) fun x20 μ19 => if ¬ x20 = -1 then bnd (fX13_check 0 0 4 μ19) fun _ μ16 => bnd (fX13_advance (fu + 1001) 0 μ16) fun _ μ17 => bnd (fX13_expect (fu + 1001) 0 58 μ17) fun _ μ18 => (if (32 : Int32) ≤ ν.1 27 1 0 then some ((), μ18) else ckI (ν.1 27 1 0) (mil.getD 8 0) (ckI (ν.1 27 1 0) (mil.getD 9 0) (some ((), wI (wI μ18 28 8 (ν.1 27 1 0).toNatClampNeg (nI (tkP c N t))) 28 9 (ν.1 27 1 0).toNatClampNeg (nI (tkE c N (tkP c N t) - tkP c N t)))))) else bnd (fX13_check 0 1 4 μ19) fun _ μ16 => bnd (fX13_advance (fu + 1001) 0 μ16) fun _ μ17 => bnd (fX13_expect (fu + 1001) 0 58 μ17) fun _ μ18 => (if (32 : Int32) ≤ ν.1 27 1 0 then some ((), μ18) else ckI (ν.1 27 1 0) (mil.getD 8 0) (ckI (ν.1 27 1 0) (mil.getD 9 0) (some ((), wI (wI μ18 28 8 (ν.1 27 1 0).toNatClampNeg (nI (tkP c N t))) 28 9 (ν.1 27 1 0).toNatClampNeg (nI (tkE c N (tkP c N t) - tkP c N t))))))) = _
  rw [h0, if_neg (show ¬ nI (tkE c N (tkP c N t) - tkP c N t) ≤ 0 from fun z => absurd ((nI_leI (b := 0) (by omega) (by decide)).1 z) (by omega)), ml, bnd_some]
  simp only [lab_w hc]
  cases hk : lkM c lb ll (tkP c N t) (tkE c N (tkP c N t) - tkP c N t) cnt 0 with
  | none => rw [if_neg (show ¬ ¬ opN none = -1 from fun z => z rfl), if_pos rfl]
  | some a =>
    have al : ∀ d i, i + d = cnt → lkM c lb ll (tkP c N t) (tkE c N (tkP c N t) - tkP c N t) d i = some a → a < cnt := by
      intro d
      induction d with
      | zero => intro i _ h; exact absurd h (by simp [lkM])
      | succ d ih =>
        intro i hi h
        rw [lkM] at h
        by_cases g : ll i = tkE c N (tkP c N t) - tkP c N t ∧ smG c (tkE c N (tkP c N t) - tkP c N t) (tkP c N t) (lb i) = true
        · rw [if_pos g] at h
          have := Option.some.inj h
          omega
        · rw [if_neg g] at h
          exact ih (i + 1) (by omega) h
    have := al cnt 0 (by omega) hk
    rw [if_pos (show ¬ opN (some a) = -1 from nI_m1 (by omega)), if_neg (by simp)]
theorem fcp_def {s L t cnt : Nat} {μ : Mem} : FcP s μ (defD μ L t cnt) := by
  refine ⟨fun κ a q _ _ _ _ z w => ?_, fun _ _ _ _ => rfl, rfl, id, fun ⟨x, h1, h2⟩ => ⟨x, h1, ?_⟩⟩
  · unfold defD; rw [wI_o (by omega), wI_o (by omega), wI_o (by omega)]
  · unfold defD; rw [wI_o (by omega), wI_o (by omega), wI_o (by omega)]; exact h2
theorem fmp_lab {ν : Mem} {cnt : Nat} {x l : Int32} : FmP ν (labM ν cnt x l) := ⟨fun κ a q _ _ z => lab_o (by omega), lab_2⟩
theorem fn_lab {ν : Mem} {cnt : Nat} {x l : Int32} : FN ν (labM ν cnt x l) := fn_of (lab_o (by omega)) (fun j a _ _ => lab_o (by omega))
theorem ic_28 {N cnt m B : Nat} {c : Nat → Int32} {V : Nat → Option Nat} {ν ν' : Mem} (h : NM N c V B cnt m ν) (e : ∀ κ a q, ¬ (κ = 26 ∧ a = 0 ∧ 23 ≤ q ∧ q ≤ 27) → ¬ (κ = 28 ∧ (a = 8 ∨ a = 9)) → ν'.1 κ a q = ν.1 κ a q) : NM N c V B cnt m ν' ∧ TT V ν' = TT V ν := by
  have f : ∀ κ a, ¬ κ = 26 → ¬ (κ = 28 ∧ (a = 8 ∨ a = 9)) → ν'.1 κ a = ν.1 κ a := fun κ a z w => funext fun q => e κ a q (by omega) w
  exact ⟨nm_congr h (fun e' he' hx => by rw [f 27 1 (by omega) (by omega)]; exact hx) (fun a _ _ => f _ _ (by omega) (by omega)) (e 26 0 39 (by omega) (by omega)), tt_congr (f _ _ (by omega) (by omega)) (f _ _ (by omega) (by omega)) (f _ _ (by omega) (by omega)) (e 26 0 39 (by omega) (by omega))⟩
theorem pd_c {s B cnt : Nat} {μ μ' : Mem} {T : Nat → Int32} (h : PD s B cnt μ T) (e : ∀ κ a q, κ = 5 ∨ κ = 8 ∨ κ = 9 → μ'.1 κ a q = μ.1 κ a q) (er : μ'.2.1 9 = μ.2.1 9) : PD s B cnt μ' T := by
  obtain ⟨h1, h2, h3, h4, h5, h6, h7, h8, h9⟩ := h
  exact ⟨h1, h2, (e 5 s 0 (by omega)).trans h3, fun a ha => relI_c (h4 a ha) (funext fun k => e 9 _ k (by omega)) (by rw [er]), h5, fun e' he' => pe_c (h6 e' he') (funext fun k => e 8 _ k (by omega)) (fun _ _ => rfl), fun q hq => by rw [e 5 s 1 (by omega)]; exact h7 q hq, h8, h9⟩
