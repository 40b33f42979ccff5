/-- relP looks at the count, the instructions and the setups alone -/
theorem relP_T2 {μ : Mem} {p : Nat} {T T' : Nat → Int32} (h : ∀ k, (k = 0 ∨ (284 ≤ k ∧ k < 560)) → T' k = T k) (q : relP μ p T) : relP μ p T' := by
  obtain ⟨cnt, a, b, c, d, e⟩ := q
  exact ⟨cnt, a, (h 0 (by decide)).trans b, c, fun a ha => relI_T (fun k hk => h _ (by omega)) (d a ha), fun g hg => relS_T (fun k hk => h _ (by omega)) (e g hg)⟩
/-- a queue that is sound -/
def okQ (μ : Mem) (j : Nat) : Prop := ∃ s h r : Nat, s ≤ 8 ∧ h < 8 ∧ r ≤ 8 ∧ μ.1 19 j 0 = nI s ∧ μ.1 19 j 1 = nI r ∧ μ.1 19 j 2 = nI h
/-- what an operation on the machine that is now may leave behind: all else stays -/
theorem rel2_upd {p : Nat} {μ μ' ν ν' : Mem} (h : Rel2 p μ ν) (hc : ∀ κ n k, κ < 26 → (wd κ = 0 ∨ n / wd κ ≠ 0) → μ'.1 κ n k = μ.1 κ n k) (hr : μ'.2.1 = μ.2.1)
    (h26 : ∀ n k, ¬ (n = 0 ∧ k = 6) → ν'.1 26 n k = ν.1 26 n k) (h28 : ∀ n k, ν'.1 28 n k = ν.1 28 n k) (h27 : ∀ n k, n ≠ 0 → ν'.1 27 n k = ν.1 27 n k) (hT : ∀ k, (k = 0 ∨ (284 ≤ k ∧ k < 560)) → ν'.1 27 0 k = ν.1 27 0 k)
    (hM : relM μ' 0 p (fun k => ν'.1 27 0 k)) (hq : ∀ j, j < 8 → okQ μ' j) (hz : ∀ j, j < 4 → μ'.1 18 j 10 = 0 ∨ μ'.1 18 j 10 = 1) : Rel2 p μ' ν' := by
  obtain ⟨⟨r1, r2, r3, r4, r5, r6⟩, hP, _, ⟨n, hn, b1, b2, b3⟩, hE, ⟨u, e, hu, he, u1, u2, e1, hist⟩, hS, hk3, hk9, hq0, hz0⟩ := h
  have kw : ∀ {a : Nat}, a < 26 → wd a = 0 → μ'.1 a = μ.1 a := fun h0 hw => funext fun b => funext fun c => hc _ b c h0 (Or.inl hw)
  have w0 := kw (a := 0) (by decide) rfl
  have w5 := kw (a := 5) (by decide) rfl
  have w8 := kw (a := 8) (by decide) rfl
  have w9 := kw (a := 9) (by decide) rfl
  have w1 := kw (a := 1) (by decide) rfl
  have h8 : ∀ e', e' < 4 → μ'.1 8 (4 * p + e') 0 = μ.1 8 (4 * p + e') 0 := fun e' _ => by rw [w8]
  have hp : ∀ {T : Nat → Int32}, relP μ p T → relP μ' p T := fun q => relP_congr w5 w8 w9 (by rw [hr]) q
  have wl : ∀ κ, wd κ ≠ 0 → κ < 26 := fun κ q => by
    unfold wd at q
    by_cases hk : κ < 26
    · exact hk
    · exact absurd (by rw [if_neg (by omega), if_neg (by omega), if_neg (by omega), if_neg (by omega)]) q
  have st : ∀ {i : Nat}, i ≠ 0 → Same μ μ' i i := fun hi => same_own fun κ n k hw hn => hc κ n k (wl κ hw) (Or.inr (by rw [hn]; exact hi))
  have t4 : ∀ {o : Nat} (j : Nat), rowT ν' 4 o j = rowT ν 4 o j := fun j => h27 _ _ (by decide)
  have t3 : ∀ (j : Nat), rowT ν' 3 0 j = rowT ν 3 0 j := fun j => h27 _ _ (by decide)
  refine ⟨⟨r1, by rw [hr]; exact r2, by rw [hr]; exact r3, by rw [hr]; exact r4, by rw [hr]; exact r5, by rw [hr]; exact r6⟩, relP_T2 hT (hp hP), hM, ⟨n, hn, by rw [w0]; exact b1, (h26 _ _ (by decide)).trans b2, fun k hk => ?_⟩, ?_, ⟨u, e, hu, he, by rw [w0]; exact u1, (h26 _ _ (by decide)).trans u2, by rw [w0]; exact e1, fun k hk => ?_⟩, ?_, ?_, ?_, fun j hj => ?_, fun j hj => ?_⟩
  · rw [h28, w1]; exact b3 k hk
  · rw [w0, h26 _ _ (by decide)]; exact hE
  · obtain ⟨q1, q2⟩ := hist k hk
    exact ⟨relP_T (fun j _ => t4 j) (hp q1), relM_T (fun j _ => t4 j) (relM_same (st (by omega)) h8 q2)⟩
  · rw [w0, h26 _ _ (by decide)]
    exact hS.imp id fun ⟨a, b, c, d⟩ => ⟨a, b, relP_T (fun j _ => t3 j) (hp c), relM_T (fun j _ => t3 j) (relM_same (st (by decide)) h8 d)⟩
  · rw [hr]; exact hk3
  · rw [hr]; exact hk9
  · by_cases hm : j < 8
    · exact hq j hm
    · obtain ⟨s, hh, r, a, b, c, d1, d2, d3⟩ := hq0 j hj
      have o : ∀ {k : Nat}, μ'.1 19 j k = μ.1 19 j k := hc 19 j _ (by decide) (Or.inr (show j / 8 ≠ 0 by omega))
      exact ⟨s, hh, r, a, b, c, o.trans d1, o.trans d2, o.trans d3⟩
  · by_cases hm : j < 4
    · exact hz j hm
    · rw [hc 18 j 10 (by decide) (Or.inr (show j / 4 ≠ 0 by omega))]
      exact hz0 j hj
/-! an operation in pairs: the class's cells and the model's, each by itself -/
def KR (μ μ' : Mem) : Prop := (∀ κ n k, 26 ≤ κ → κ < 34 → μ'.1 κ n k = μ.1 κ n k) ∧ ∀ κ n k, 31 ≤ κ → μ'.2.1 κ n k = μ.2.1 κ n k
theorem kr_nil {μ : Mem} : KR μ μ := ⟨fun _ _ _ _ _ => rfl, fun _ _ _ _ => rfl⟩
def KC (ν ν' : Mem) : Prop := (∀ κ n k, κ < 26 ∨ 31 ≤ κ ∨ (κ = 28 ∧ 13 ≤ n ∧ n ≤ 14) ∨ (κ = 26 ∧ n = 0 ∧ k = 41) → ν'.1 κ n k = ν.1 κ n k) ∧ ∀ κ n k, κ < 26 ∨ 31 ≤ κ → ν'.2.1 κ n k = ν.2.1 κ n k
def Op (p : Nat) (μ ν : Mem) (fc : Option (RX Int32)) (fr : Option (Int32 × Mem)) : Prop :=
  ∃ x μ' y ν', fc = some (x, μ') ∧ fr = some (y, ν') ∧ Ans x y (ν'.1 26 0 6) ∧ Rel2 p μ' ν' ∧ KR μ μ' ∧ KC ν ν'
theorem kr_rem {e u : Nat} {μ : Mem} : KR μ (remC e u μ) := ⟨fun κ n k h1 h2 => by
    refine rem_out (by omega) (Or.inl ?_)
    unfold wd
    rw [if_neg (by omega), if_neg (by omega), if_neg (by omega), if_neg (by omega)], fun _ _ _ _ => rfl⟩
theorem kc_rec {u : Nat} {ν : Mem} : KC ν (recM u ν) := by
  refine ⟨fun κ n k h => ?_, fun κ n k h => ?_⟩
  · unfold recM
    split
    · rw [wI_at, if_neg (by omega)]
      show (if κ = 27 ∧ n = 4 ∧ 700 * 9 ≤ k ∧ k < 700 * 9 + 700 then _ else (wI (shP 9 ν) 26 0 5 (nI 9)).1 κ n k) = _
      rw [if_neg (by omega), wI_at, if_neg (by omega)]
      exact if_neg (by omega)
    · rw [wI_at, if_neg (by omega)]
      exact if_neg (by omega)
  · unfold recM
    split <;> rfl
