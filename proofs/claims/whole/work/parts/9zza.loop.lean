/-! PARSING: all clauses, both -/
theorem sy_ne1 {N n t : Nat} {c : Nat → Int32} (hT : TP N n c) (g : t < n) : syA N n c t ≠ 1 := fun z => by
  have l := hT.2.2.1 t g
  unfold syA at z
  rw [if_pos g] at z
  unfold tkY at z
  have no : ∀ e k, tkP c N t < e → k ≠ 1 → spG c (tkP c N t) e k 74 0 ≠ 1 := fun e k he hk w => by
    have v := sp_is (fun q => hk q.symm) _ _ w
    unfold wdE at v
    rw [Bool.and_eq_true] at v
    have := of_decide_eq_true v.1
    have z0 : txN.getD (syT.getD 1 0) 0 = 0 := by decide
    omega
  by_cases hd : tkD (c (tkP c N t)) = true
  · rw [if_pos hd] at z; exact absurd z (by decide)
  · rw [if_neg hd] at z
    by_cases hl : tkL (c (tkP c N t)) = true
    · rw [if_pos hl] at z; exact no _ _ (tk_gt l).1 (by decide) z
    · rw [if_neg hl] at z; exact no _ _ (Nat.lt_succ_self _) (by decide) z
def cCl (F : Nat) : (Mem → Int32 → Option (Unit × Mem)) → Mem → Int32 → Option (Unit × Mem) := fun self μ1 x2 =>
  if (1000 : Int32) ≤ x2 then some ((), μ1) else bnd (fX11_at 0 1 μ1) fun x6 μ5 => if ¬ x6 = 0 then some ((), μ5) else bnd (cClause F μ5) fun _ μ10 => self μ10 (x2 + (1 : Int32))
def mCl {α : Type} (F : Nat) (K : Mem → Option (α × Mem)) : (Mem → Option (α × Mem)) → Mem → Option (α × Mem) := fun self μ5 =>
  if ¬ (μ5.1 26 0 26) = 0 then K μ5 else if (μ5.1 26 0 25) = 0 then K μ5 else bnd (fX13_readClause F 0 μ5) fun _ μ34 => self μ34
theorem lp_K {α : Type} {F : Nat} {K : Mem → Option (α × Mem)} : ∀ f ν ν', lp (fun _ => none) f (mCl F fun ν => some ((), ν)) ν = some ((), ν') → lp (fun _ => none) f (mCl F K) ν = K ν' := by
  intro f
  induction f with
  | zero => intro ν ν' h; exact absurd h (by simp [lp])
  | succ f ih =>
    intro ν ν' h
    rw [lp_succ] at h ⊢
    unfold mCl at h ⊢
    by_cases e : ν.1 26 0 26 = 0
    · rw [if_neg (fun z => z e)] at h ⊢
      by_cases k : ν.1 26 0 25 = 0
      · rw [if_pos k] at h ⊢
        rw [(Prod.mk.inj (Option.some.inj h)).2]
      · rw [if_neg k] at h ⊢
        cases hc : fX13_readClause F 0 ν with
        | none => rw [hc] at h; exact absurd h (by simp [bnd])
        | some r =>
          obtain ⟨u, μ1⟩ := r
          rw [hc, bnd_some] at h
          rw [bnd_some]
          exact ih μ1 ν' h
    · rw [if_pos e] at h ⊢
      rw [(Prod.mk.inj (Option.some.inj h)).2]
theorem ccl_d {N n F k : Nat} {c : Nat → Int32} {μ : Mem} (d : DD N n c μ) (self : Mem → Int32 → Option (Unit × Mem)) : cCl F self μ (nI k) = some ((), μ) := by
  unfold cCl
  rw [d_at d, if_pos rfl, bnd_some, if_pos (show ¬ (1 : Int32) = 0 by decide), ite_self]
theorem p_clauses {N n s : Nat} {c : Nat → Int32} {M0 M1 : Md} (hM0 : MV M0) (hM1 : MV M1) (h0 : ∀ x, M0.1 x = some 0) (hs : s < 2) (fu : Nat) : ∀ d t k fc fm μ ν, n ≤ t + d → k + (n - t) ≤ 1000 → PG N n c t μ ν → IC N n c s M0 t μ ν → μ.1 10 0 2 = 0 →
    J2 N n c M0 M1 (fun μ => lp (fun _ _ => none) (fc + (d + 1)) (cCl (fu + 2001)) μ (nI k)) (lp (fun _ => none) (fm + (d + 1)) (mCl (fu + 2001) fun ν => some ((), ν)) ν) t μ ν (IC N n c s) (fun M t' _ μ' ν' => t' = n ∧ IC N n c s M t' μ' ν') (FcP s) FmP () := by
  intro d
  induction d with
  | zero =>
    intro t k fc fm μ ν hd hk h hI hfl
    have ht : t = n := by have := h.2.2.2.2.2.1.2.1; omega
    have w3 := h.2.2.2.2.2.1.2.2
    rw [if_neg (by omega)] at w3
    refine j2_of (fun M μ _ g i => ⟨(), μ, ν, ?_, ?_, fcp_rfl, fmp_rfl, fn_rfl, Or.inr ⟨t, Nat.le_refl t, g, ht, i⟩⟩) h hI
    · show lp (fun (_ : Mem) (_ : Int32) => none) (fc + 1) (cCl (fu + 2001)) _ _ = _
      rw [lp_succ]
      unfold cCl
      rw [c_at (Nat.le_trans g.1.1 g.1.2.1) g.2.1 g.2.2.2.2.2.1.2.1 g.2.2.1, sy_end (by omega), if_pos rfl, bnd_some, if_pos (show ¬ (1 : Int32) = 0 by decide), ite_self]
    · rw [lp_succ]
      unfold mCl
      rw [if_neg (fun z => z g.2.2.2.2.1), if_pos w3.2.2]
  | succ d ih =>
    intro t k fc fm μ ν hd hk h hI hfl
    have hn : n ≤ 1000 := Nat.le_trans h.1.1 h.1.2.1
    by_cases tn : t < n
    · have w3 := h.2.2.2.2.2.1.2.2
      rw [if_pos tn] at w3
      have kn : ¬ ν.1 26 0 25 = 0 := by
        rw [w3.2.2]
        unfold tkK
        split
        · decide
        · split <;> decide
      rw [show fm + (d + 1 + 1) = (fm + (d + 1)) + 1 from rfl, lp_succ]
      unfold mCl
      rw [if_neg (fun z => z h.2.2.2.2.1), if_neg kn]
      have key := j2_seq (Fc := FcP s) (Fm := FmP) (F2 := fun μ => lp (fun _ _ => none) (fc + (d + 1)) (cCl (fu + 2001)) μ (nI (k + 1))) (FM2 := fun _ ν => lp (fun _ => none) (fm + (d + 1)) (mCl (fu + 2001) fun ν => some ((), ν)) ν) (cv := ()) (I2 := fun M t' _ μ' ν' => t' = n ∧ IC N n c s M t' μ' ν') (fun _ _ _ => fcp_trans) (fun _ _ _ => fmp_trans) (p_clause hM0 hM1 h0 hs h hI hfl fu)
        (fun t1 _ μ1 ν1 fcx _ _ g1 i1 => j2_pp (fun _ _ w => w.2) (fun _ _ _ _ _ _ w => w) (ih t1 (k + 1) fc fm μ1 ν1 (by have := i1.1; omega) (by have := i1.1; omega) g1 i1.2 ((fcx.1 _ _ _ (by omega) (by omega) (by omega) (by omega) (by omega) (by omega)).trans hfl)))
        (fun μ0 μ' _ _ d' => ⟨μ', by show lp (fun (_ : Mem) (_ : Int32) => none) ((fc + d) + 1) (cCl (fu + 2001)) _ _ = _; rw [lp_succ, ccl_d d'], fcp_rfl, kt_rfl⟩)
        (fun μ' ν' _ b => ⟨ν', by
          show lp (fun (_ : Mem) => none) ((fm + d) + 1) (mCl (fu + 2001) fun ν => some ((), ν)) _ = _
          rw [lp_succ]
          unfold mCl
          rw [if_pos (b_err b)], fmp_rfl, fn_rfl, fun _ _ _ => rfl⟩)
      refine j2_cong (fun M μx _ g _ => ?_) h hI key
      show lp (fun (_ : Mem) (_ : Int32) => none) ((fc + (d + 1)) + 1) (cCl (fu + 2001)) _ _ = bnd _ _
      rw [lp_succ]
      show (if (1000 : Int32) ≤ nI k then _ else _) = _
      rw [if_neg (show ¬ (1000 : Int32) ≤ nI k from fun z => absurd ((nI_leI (a := 1000) (by decide) (by omega)).1 z) (by omega)), c_at hn g.2.1 g.2.2.2.2.2.1.2.1 g.2.2.1, if_neg (sy_ne1 h.1 tn), bnd_some, if_neg (fun z => z rfl), nI_1]
    · have ht : t = n := by have := h.2.2.2.2.2.1.2.1; omega
      have w3 := h.2.2.2.2.2.1.2.2
      rw [if_neg (by omega)] at w3
      refine j2_of (fun M μ _ g i => ⟨(), μ, ν, ?_, ?_, fcp_rfl, fmp_rfl, fn_rfl, Or.inr ⟨t, Nat.le_refl t, g, ht, i⟩⟩) h hI
      · show lp (fun (_ : Mem) (_ : Int32) => none) ((fc + (d + 1)) + 1) (cCl (fu + 2001)) _ _ = _
        rw [lp_succ]
        unfold cCl
        rw [c_at (Nat.le_trans g.1.1 g.1.2.1) g.2.1 g.2.2.2.2.2.1.2.1 g.2.2.1, sy_end (by omega), if_pos rfl, bnd_some, if_pos (show ¬ (1 : Int32) = 0 by decide), ite_self]
      · rw [show fm + (d + 1 + 1) = (fm + (d + 1)) + 1 from rfl, lp_succ]
        unfold mCl
        rw [if_neg (fun z => z g.2.2.2.2.1), if_pos w3.2.2]
