/-! QUERY: what holds for an engine -/
theorem m_holds {ν : Mem} {e cc : Nat} {v : Int32} (he : e < 4) (hcc : ν.1 26 0 46 = nI cc) (hc : cc ≤ 200) (hF : FLD ν) (hv : exs (peM ν e) (ν.1 28 15) cc 0 [] = some [v]) (fu : Nat) :
    ∃ ν', fX13_holdsFor (fu + 1001) 0 (nI e) ν = some (if v = 1 then 1 else 0, ν') ∧ (∀ κ a q, ¬ (κ = 28 ∧ a = 16) → ν'.1 κ a q = ν.1 κ a q) ∧ ν'.2 = ν.2 := by
  unfold fX13_holdsFor
  simp -implicitDefEqProofs only [jn_eq, nm_eq]
  refine (lp_ind (P := fun d (f : Mem → Int32 → Int32 → Option (Int32 × Mem)) => ∀ k q st L μ1, k + q = cc → q < d + 1 → exs (peM ν e) (ν.1 28 15) q k st = some [v] → st.length = L → L ≤ k → SK μ1 st → (∀ κ a q, ¬ (κ = 28 ∧ a = 16) → μ1.1 κ a q = ν.1 κ a q) → μ1.2 = ν.2 → ∃ ν', f μ1 (nI L) (nI k) = some (if v = 1 then 1 else 0, ν') ∧ (∀ κ a q, ¬ (κ = 28 ∧ a = 16) → ν'.1 κ a q = ν.1 κ a q) ∧ ν'.2 = ν.2) (fun f k q st L μ1 hk hq hx hlen hl hs h1 h2 => ?_) (fun d f ih k q st L μ1 hk hq hx hlen hl hs h1 h2 => ?_) 1000 fu) 0 cc [] 0 ν (by omega) (by omega) hv rfl (Nat.le_refl 0) trivial (fun _ _ _ _ => rfl) rfl
  · obtain rfl : q = 0 := by omega
    have st1 : st = [v] := Option.some.inj hx
    subst st1
    have h0 : μ1.1 28 16 0 = v := hs.1
    rw [h1 26 0 46 (by omega), hcc, if_pos (show nI cc ≤ nI k from (nI_leI (by omega) (by omega)).2 (by omega)), show ∀ {α : Type} (o : Option α), ckI (0 : Int32) (mil.getD 16 0) o = o from fun o => ckI_nI (j := 0) (by decide) (by decide)]
    show ∃ ν', (if ¬ μ1.1 28 16 0 = 1 then ckZ 0 (some ((0 : Int32), μ1)) else ckZ 1 (some (1, μ1))) = _ ∧ _
    rw [h0, ckZ_ok (Or.inl rfl), ckZ_ok (Or.inr rfl)]
    by_cases g : v = 1
    · rw [if_neg (fun z => z g), if_pos g]; exact ⟨μ1, rfl, h1, h2⟩
    · rw [if_pos g, if_neg g]; exact ⟨μ1, rfl, h1, h2⟩
  · obtain _ | q := q
    · have st1 : st = [v] := Option.some.inj hx
      subst st1
      have h0 : μ1.1 28 16 0 = v := hs.1
      rw [h1 26 0 46 (by omega), hcc, if_pos (show nI cc ≤ nI k from (nI_leI (by omega) (by omega)).2 (by omega)), show ∀ {α : Type} (o : Option α), ckI (0 : Int32) (mil.getD 16 0) o = o from fun o => ckI_nI (j := 0) (by decide) (by decide)]
      show ∃ ν', (if ¬ μ1.1 28 16 0 = 1 then ckZ 0 (some ((0 : Int32), μ1)) else ckZ 1 (some (1, μ1))) = _ ∧ _
      rw [h0, ckZ_ok (Or.inl rfl), ckZ_ok (Or.inr rfl)]
      by_cases g : v = 1
      · rw [if_neg (fun z => z g), if_pos g]; exact ⟨μ1, rfl, h1, h2⟩
      · rw [if_pos g, if_neg g]; exact ⟨μ1, rfl, h1, h2⟩
    · have ek : μ1.1 28 15 k = ν.1 28 15 k := h1 _ _ _ (by omega)
      have hx : (match ex1 (peM ν e) (ν.1 28 15 k) st with | some st' => exs (peM ν e) (ν.1 28 15) q (k + 1) st' | none => none) = some [v] := hx
      rw [h1 26 0 46 (by omega), hcc, if_neg (show ¬ nI cc ≤ nI k from fun z => absurd ((nI_leI (by omega) (by omega)).1 z) (by omega)), ckI_nI (show k < mil.getD 15 0 from (show k < 200 by omega)) (by decide), nI_clamp (n := k) (by omega), ek, nI_1]
      generalize hcode : ν.1 28 15 k = cd at hx
      unfold ex1 at hx
      by_cases c23 : cd = -23
      · rw [if_pos c23] at hx
        rw [if_neg (fun z => z c23)]
        obtain _ | ⟨x, r⟩ := st
        · exact absurd hx (by simp)
        · have eL : L = r.length + 1 := hlen.symm.trans List.length_cons
          subst eL
          have e1 : nI (r.length + 1) - 1 = nI r.length := pk_sub (a := r.length + 1) (b := 1) (by omega)
          rw [e1, ckI_nI (show r.length < mil.getD 16 0 from (show r.length < 200 by omega)) (by decide), ckI_nI (show r.length < mil.getD 16 0 from (show r.length < 200 by omega)) (by decide), nI_clamp (n := r.length) (by omega), hs.1]
          exact ih (k + 1) q ((1 - x) :: r) (r.length + 1) _ (by omega) (by omega) hx List.length_cons (by omega) ⟨wI_same, sk_w r hs.2 (Nat.le_refl _)⟩ (fun κ a q z => by rw [wI_o (by omega)]; exact h1 κ a q z) h2
      · rw [if_neg c23] at hx
        rw [if_pos c23]
        by_cases c20 : cd ≤ -20
        · rw [if_pos c20] at hx
          rw [if_pos c20]
          obtain _ | ⟨b, _ | ⟨a, r⟩⟩ := st
          · exact absurd hx (by simp)
          · exact absurd hx (by simp)
          · have eL : L = r.length + 1 + 1 := hlen.symm.trans (List.length_cons.trans (congrArg (· + 1) List.length_cons))
            subst eL
            have e1 : nI (r.length + 1 + 1) + -1 = nI (r.length + 1) := by rw [sub1]; exact pk_sub (a := r.length + 1 + 1) (b := 1) (by omega)
            have e2 : nI (r.length + 1) - 1 = nI r.length := pk_sub (a := r.length + 1) (b := 1) (by omega)
            have hb : μ1.1 28 16 (r.length + 1) = b := hs.1
            have ha : μ1.1 28 16 r.length = a := hs.2.1
            rw [e1, e2, ckI_nI (show r.length < mil.getD 16 0 from (show r.length < 200 by omega)) (by decide), ckI_nI (show r.length + 1 < mil.getD 16 0 from (show r.length + 1 < 200 by omega)) (by decide), nI_clamp (n := r.length) (by omega), nI_clamp (n := r.length + 1) (by omega), ha, hb, m_operate, bnd_some, ckI_nI (show r.length < mil.getD 16 0 from (show r.length < 200 by omega)) (by decide)]
            exact ih (k + 1) q (opr cd a b :: r) (r.length + 1) _ (by omega) (by omega) hx List.length_cons (by omega) ⟨wI_same, sk_w r hs.2.2 (Nat.le_refl _)⟩ (fun κ a q z => by rw [wI_o (by omega)]; exact h1 κ a q z) h2
        · rw [if_neg c20] at hx
          rw [if_neg c20]
          have lst : L < 200 := by omega
          have sL : ∀ p, SK (wI μ1 28 16 L p) st := fun p => sk_w st hs (by rw [hlen]; exact Nat.le_refl _)
          by_cases c0 : cd < 0
          · rw [if_pos c0] at hx
            rw [if_pos c0]
            cases hp : peM ν e (-1 - cd) with
            | none => rw [hp] at hx; exact absurd hx (by simp)
            | some w =>
              rw [hp] at hx
              unfold peM at hp
              by_cases gp : (-1 - cd).toNatClampNeg < 12 ∧ (-1 - cd) = nI (-1 - cd).toNatClampNeg
              · rw [if_pos gp] at hp
                have ep := Option.some.inj hp
                have hF1 : FLD μ1 := fun i i0 i1 => (h1 _ _ _ (by omega)).trans (hF i i0 i1)
                have pv : pvM μ1 e (-1 - cd).toNatClampNeg = w := by
                  rw [← ep]
                  unfold pvM
                  rw [show tN μ1 = tN ν from funext fun q => h1 27 0 q (by omega)]
                rw [gp.2, m_prop he gp.1 hF1, bnd_some, pv, ckI_nI (show L < mil.getD 16 0 from lst) (by decide), nI_clamp (n := L) (by omega), nI_1]
                exact ih (k + 1) q (w :: st) (L + 1) _ (by omega) (by omega) hx (by rw [List.length_cons, hlen]) (by omega) ⟨by rw [hlen]; exact wI_same, sL _⟩ (fun κ a q z => by rw [wI_o (by omega)]; exact h1 κ a q z) h2
              · rw [if_neg gp] at hp; exact absurd hp (by simp)
          · rw [if_neg c0] at hx
            rw [if_neg c0, ckI_nI (show L < mil.getD 16 0 from lst) (by decide), nI_clamp (n := L) (by omega), nI_1]
            exact ih (k + 1) q (cd :: st) (L + 1) _ (by omega) (by omega) hx (by rw [List.length_cons, hlen]) (by omega) ⟨by rw [hlen]; exact wI_same, sL _⟩ (fun κ a q z => by rw [wI_o (by omega)]; exact h1 κ a q z) h2
