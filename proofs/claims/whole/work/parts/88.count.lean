/-! all is read -/
theorem m_readAll {i : Nat} {μ ν : Mem} (hp : ∀ q, q < 16 → tN ν (4 + 6 * q + 0) = b2 (bt (μ.1 12 i 1) q) ∧ tN ν (4 + 6 * q + 1) = b2 (bt (μ.1 12 i 2) q) ∧ tN ν (4 + 6 * q + 2) = b2 (bt (μ.1 12 i 3) q)) (gu : Nat) :
    ∃ ν', fX13_readAll (gu + 17) 0 ν = some ((), ν') ∧ ν'.2 = ν.2 ∧ (∀ κ n k, ¬ (κ = 28 ∧ (n = 0 ∨ n = 1)) → ¬ (κ = 26 ∧ n = 0 ∧ (k = 16 ∨ k = 17)) → ν'.1 κ n k = ν.1 κ n k) ∧ (∀ q, q < 16 → ν'.1 28 0 q = b2 (lvl μ i q)) ∧ (∀ f, f < 8 → ν'.1 28 1 f = tN ν (100 + f)) ∧ ν'.1 26 0 16 = 0 ∧ ν'.1 26 0 17 = 0 := by
  unfold fX13_readAll
  simp only [jn_eq, nm_eq]
  refine lp_ind (P := fun n (f : Mem → Int32 → Option (Unit × Mem)) => ∀ (x : Nat) (ν1 : Mem), x + n = 16 → ν1.2 = ν.2 → (∀ κ n k, ¬ (κ = 28 ∧ (n = 0 ∨ n = 1)) → ν1.1 κ n k = ν.1 κ n k) → (∀ q, q < x → ν1.1 28 0 q = b2 (lvl μ i q)) → ∃ ν', f ν1 (nI x) = some ((), ν') ∧ ν'.2 = ν.2 ∧ (∀ κ n k, ¬ (κ = 28 ∧ (n = 0 ∨ n = 1)) → ¬ (κ = 26 ∧ n = 0 ∧ (k = 16 ∨ k = 17)) → ν'.1 κ n k = ν.1 κ n k) ∧ (∀ q, q < 16 → ν'.1 28 0 q = b2 (lvl μ i q)) ∧ (∀ f, f < 8 → ν'.1 28 1 f = tN ν (100 + f)) ∧ ν'.1 26 0 16 = 0 ∧ ν'.1 26 0 17 = 0)
    (fun f x ν1 hx h2 h1 hl => ?_) (fun n f ih x ν1 hx h2 h1 hl => ?_) 16 gu 0 ν rfl rfl (fun _ _ _ _ => rfl) (fun q hq => absurd hq (by omega))
  · have : x = 16 := by omega
    subst this
    rw [if_pos (by decide), show gu + 17 = (gu + 8) + (8 + 1) by omega]
    refine lp_ind (P := fun n (f : Mem → Int32 → Option (Unit × Mem)) => ∀ (x : Nat) (ν1 : Mem), x + n = 8 → ν1.2 = ν.2 → (∀ κ n k, ¬ (κ = 28 ∧ (n = 0 ∨ n = 1)) → ν1.1 κ n k = ν.1 κ n k) → (∀ q, q < 16 → ν1.1 28 0 q = b2 (lvl μ i q)) → (∀ q, q < x → ν1.1 28 1 q = tN ν (100 + q)) → ∃ ν', f ν1 (nI x) = some ((), ν') ∧ ν'.2 = ν.2 ∧ (∀ κ n k, ¬ (κ = 28 ∧ (n = 0 ∨ n = 1)) → ¬ (κ = 26 ∧ n = 0 ∧ (k = 16 ∨ k = 17)) → ν'.1 κ n k = ν.1 κ n k) ∧ (∀ q, q < 16 → ν'.1 28 0 q = b2 (lvl μ i q)) ∧ (∀ f, f < 8 → ν'.1 28 1 f = tN ν (100 + f)) ∧ ν'.1 26 0 16 = 0 ∧ ν'.1 26 0 17 = 0)
      (fun f x ν1 hx h2 h1 hl hf => ?_) (fun n f ih x ν1 hx h2 h1 hl hf => ?_) 8 (gu + 8) 0 ν1 rfl h2 h1 hl (fun q hq => absurd hq (by omega))
    · have : x = 8 := by omega
      subst this
      refine ⟨_, if_pos (by decide), h2, fun κ n k a b => ?_, fun q hq => ?_, fun f hf' => ?_, ?_, wI_same⟩
      · rw [wI_o (fun z => b ⟨z.1, z.2.1, Or.inr z.2.2⟩), wI_o (fun z => b ⟨z.1, z.2.1, Or.inl z.2.2⟩)]; exact h1 κ n k a
      · rw [wI_o (by omega), wI_o (by omega)]; exact hl q hq
      · rw [wI_o (by omega), wI_o (by omega)]; exact hf f hf'
      · rw [wI_o (by omega)]; exact wI_same
    · rw [if_neg (show ¬ (8 : Int32) ≤ nI x from nI_ge (b := 8) (by omega) (by decide)), show (100 : Int32) + nI x = nI (100 + x) from nI_add 100 x, ckI_nI (r700 (show 100 + x < 700 by omega)) (by decide), ckI_nI (show x < mil.getD 1 0 from (show x < 8 by omega)) (by decide), nI_clamp (n := x) (by omega), nI_clamp (n := 100 + x) (by omega), nI_1]
      refine ih (x + 1) _ (by omega) h2 (fun κ n k a => ?_) (fun q hq => ?_) (fun q hq => ?_)
      · rw [wI_o (fun z => a ⟨z.1, Or.inr z.2.1⟩)]; exact h1 κ n k a
      · rw [wI_o (by omega)]; exact hl q hq
      · rw [wI_at]
        by_cases hqx : q = x
        · subst hqx
          rw [if_pos ⟨rfl, rfl, rfl⟩]; exact h1 27 0 _ (by omega)
        · rw [if_neg (fun z => hqx z.2.2)]; exact hf q (by omega)
  · have w : ∀ k, tN ν1 k = tN ν k := fun k => h1 27 0 k (by omega)
    obtain ⟨p0, p1, p2⟩ := hp x (by omega)
    rw [if_neg (show ¬ (16 : Int32) ≤ nI x from nI_ge (b := 16) (by omega) (by decide)), m_levelOf (show x < 16 by omega) ((w _).trans p1) ((w _).trans p0) ((w _).trans p2), bnd_some, ckI_nI (show x < mil.getD 0 0 from (show x < 16 by omega)) (by decide), nI_clamp (n := x) (by omega), nI_1]
    refine ih (x + 1) _ (by omega) h2 (fun κ n k a => ?_) (fun q hq => ?_)
    · rw [wI_o (fun z => a ⟨z.1, Or.inl z.2.1⟩)]; exact h1 κ n k a
    · rw [wI_at]
      by_cases hqx : q = x
      · subst hqx
        rw [if_pos ⟨rfl, rfl, rfl⟩]; rfl
      · rw [if_neg (fun z => hqx z.2.2)]; exact hl q (by omega)
/-! the counters -/
section
variable {p i e : Nat} {μ ν : Mem}
/-- an engine's counter in this cycle -/
theorem pr_count (he : e < 4) (hs : (μ.1 8 (4 * p + e) 0 = 0 ∧ tN ν (476 + 21 * e) = 0) ∨ (μ.1 8 (4 * p + e) 0 = 1 ∧ tN ν (476 + 21 * e) = 1 ∧ tN ν (476 + 21 * e + 2) = μ.1 8 (4 * p + e) 4)) {r1 r2 : Int32} (hE : μ.1 8 (4 * p + e) 0 = 1 → relE μ (4 * i + e) r1 r2 (fun k => tN ν (560 + 35 * e + k))) :
    ∃ b μ' ν', (if (μ.1 8 (4 * p + e) 0) = 0 then some ((0 : Int32), μ) else fX1_countCycle (4 * i + e) (4 * p + e) μ) = some (b2 b, μ') ∧ fX13_countOn 0 (nI e) ν = some ((), ν') ∧ μ'.2 = μ.2 ∧ ν'.2 = ν.2 ∧
      (∀ κ n k, ¬ (κ = 18 ∧ n = 4 * i + e ∧ k = 9) → μ'.1 κ n k = μ.1 κ n k) ∧ (∀ κ n k, ¬ (κ = 27 ∧ n = 0 ∧ k = 560 + 35 * e + 10) → ¬ (κ = 28 ∧ (n = 2 ∨ n = 6) ∧ k = e) → ¬ (κ = 29 ∧ n = 0 ∧ k = e) → ν'.1 κ n k = ν.1 κ n k) ∧
      ν'.1 29 0 e = b2 b ∧ ν'.1 28 2 e = -1 ∧ ν'.1 28 6 e = -1 ∧ (b = true → μ.1 8 (4 * p + e) 0 = 1) ∧ (μ.1 8 (4 * p + e) 0 = 1 → relE μ' (4 * i + e) r1 r2 (fun k => tN ν' (560 + 35 * e + k))) := by
  have nb : ∀ c : Bool, vp_nar .boolean (b2 c) = b2 c := fun c => by cases c <;> rfl
  -- the model's first three writes
  let ν3 := wI (wI (wI ν 29 0 e 0) 28 2 e (-1)) 28 6 e (-1)
  have o3 : ∀ {κ n k : Nat}, ¬ (κ = 28 ∧ (n = 2 ∨ n = 6) ∧ k = e) → ¬ (κ = 29 ∧ n = 0 ∧ k = e) → ν3.1 κ n k = ν.1 κ n k := fun {κ n k} a b => by
    show (wI (wI (wI ν 29 0 e 0) 28 2 e (-1)) 28 6 e (-1)).1 κ n k = _
    rw [wI_o (fun z => a ⟨z.1, Or.inr z.2.1, z.2.2⟩), wI_o (fun z => a ⟨z.1, Or.inl z.2.1, z.2.2⟩), wI_o b]
  have t3 : ∀ k, tN ν3 k = tN ν k := fun k => o3 (by omega) (by omega)
  have z2 : ν3.1 28 2 e = -1 := by
    show (wI (wI (wI ν 29 0 e 0) 28 2 e (-1)) 28 6 e (-1)).1 28 2 e = _
    rw [wI_o (by omega)]; exact wI_same
  have z6 : ν3.1 28 6 e = -1 := wI_same
  have z9 : ν3.1 29 0 e = 0 := by
    show (wI (wI (wI ν 29 0 e 0) 28 2 e (-1)) 28 6 e (-1)).1 29 0 e = _
    rw [wI_o (by omega), wI_o (by omega)]; exact wI_same
  have es0 : fX13_setting 0 (nI e) 0 ν3 = some (tN ν (476 + 21 * e), ν3) := by
    have : fX13_setting 0 (nI e) 0 ν3 = _ := r_setting (f := 0) (by omega)
    rw [this]; exact congrArg (fun z => some (z, ν3)) (t3 _)
  have head : ∀ {k : Int32 → Mem → Option (Unit × Mem)}, (ckI (nI e) 4 <| ckI (nI e) (mil.getD 2 0) <| ckI (nI e) (mil.getD 6 0) <| bnd (fX13_setting 0 (nI e) 0 (wI (wI (wI ν 29 0 (nI e).toNatClampNeg (vp_nar .boolean 0)) 28 2 (nI e).toNatClampNeg (-1)) 28 6 (nI e).toNatClampNeg (-1))) k) = k (tN ν (476 + 21 * e)) ν3 := fun {k} => by
    rw [ckI_nI he (by decide), ckI_nI (by exact he) (by decide), ckI_nI (by exact he) (by decide), nI_clamp (by omega), show vp_nar .boolean 0 = 0 from rfl]
    show bnd (fX13_setting 0 (nI e) 0 ν3) k = _
    rw [es0, bnd_some]
  unfold fX13_countOn
  simp only [jn_eq, nm_eq]
  rw [head]
  rcases hs with ⟨s1, s2⟩ | ⟨s1, s2, s3⟩
  · rw [s1, s2, if_pos rfl, if_pos rfl]
    exact ⟨false, μ, ν3, rfl, rfl, rfl, rfl, fun _ _ _ _ => rfl, fun κ n k a b c => o3 b c, z9, z2, z6, fun q => Bool.noConfusion q, fun q => absurd q (by decide)⟩
  · have E := hE s1
    have of0 : fX13_of 0 (nI e) 0 ν3 = some (μ.1 18 (4 * i + e) 10, ν3) := by
      have : fX13_of 0 (nI e) 0 ν3 = _ := r_of (f := 0) (by omega)
      rw [this]; exact congrArg (fun z => some (z, ν3)) ((t3 _).trans E.1)
    have of10 : fX13_of 0 (nI e) 10 ν3 = some (μ.1 18 (4 * i + e) 9, ν3) := by
      have : fX13_of 0 (nI e) 10 ν3 = _ := r_of (f := 10) (by omega)
      rw [this]; exact congrArg (fun z => some (z, ν3)) ((t3 _).trans (E.2.2.1 9 (by decide)))
    have es2 : ∀ ν4 : Mem, (∀ k, tN ν4 k = tN ν k) → fX13_setting 0 (nI e) 2 ν4 = some (μ.1 8 (4 * p + e) 4, ν4) := fun ν4 h4 => by
      have : fX13_setting 0 (nI e) 2 ν4 = _ := r_setting (f := 2) (by omega)
      rw [this]; exact congrArg (fun z => some (z, ν4)) ((h4 _).trans s3)
    have st : ∀ (v : Int32) (ν4 : Mem), fX13_set 0 (nI e) 10 v ν4 = some ((), wI ν4 27 0 (560 + 35 * e + (9 + 1)) v) := fun v ν4 => m_setE (k := 9) he (by decide)
    rw [s1, s2, if_neg ne10, if_neg ne10, of0, bnd_some]
    unfold fX1_countCycle
    rcases E.2.1 with z | z
    · have z' : μ.1 18 (4 * i + e) 10 = 0 := E.1.symm.trans z
      rw [z', if_neg nn0, if_neg nn0]
      refine ⟨false, μ, ν3, ckZ_ok (Or.inl rfl), rfl, rfl, rfl, fun _ _ _ _ => rfl, fun κ n k a b c => o3 b c, z9, z2, z6, fun q => Bool.noConfusion q, fun _ => ?_⟩
      exact relE_T rfl rfl (fun k _ => t3 _) E
    · have z' : μ.1 18 (4 * i + e) 10 = 1 := E.1.symm.trans z
      simp only [nm_eq]
      rw [z', if_pos ne10, if_pos ne10, of10, bnd_some, es2 ν3 t3, bnd_some, wI_same, show (wI μ 18 (4 * i + e) 9 (μ.1 18 (4 * i + e) 9 + 256)).1 8 (4 * p + e) 4 = μ.1 8 (4 * p + e) 4 from wI_o (by omega), wI_wI]
      -- what is left behind
      have fin : ∀ (b : Bool) (v : Int32), ∃ ν', ν' = wI (wI ν3 29 0 e (b2 b)) 27 0 (560 + 35 * e + (9 + 1)) v ∧ ν'.2 = ν.2 ∧ (∀ κ n k, ¬ (κ = 27 ∧ n = 0 ∧ k = 560 + 35 * e + 10) → ¬ (κ = 28 ∧ (n = 2 ∨ n = 6) ∧ k = e) → ¬ (κ = 29 ∧ n = 0 ∧ k = e) → ν'.1 κ n k = ν.1 κ n k) ∧
          ν'.1 29 0 e = b2 b ∧ ν'.1 28 2 e = -1 ∧ ν'.1 28 6 e = -1 ∧ relE (wI μ 18 (4 * i + e) 9 v) (4 * i + e) r1 r2 (fun k => tN ν' (560 + 35 * e + k)) := fun b v => by
        refine ⟨_, rfl, rfl, fun κ n k a b' c => ?_, ?_, ?_, ?_, ?_⟩
        · rw [wI_o (fun z => a ⟨z.1, z.2.1, by omega⟩), wI_o c]; exact o3 b' c
        · rw [wI_o (by omega)]; exact wI_same
        · rw [wI_o (by omega), wI_o (by omega)]; exact z2
        · rw [wI_o (by omega), wI_o (by omega)]; exact z6
        · exact relE_w (k := 9) (by decide) (fun q => by omega) (fun q => by omega) (fun q => by omega) (relE_T rfl rfl (fun k _ => (tN_o (Or.inl (by decide))).trans (t3 _)) E)
      have w4 : ∀ (b : Bool), (wI ν3 29 0 e (b2 b)).1 29 0 e = b2 b := fun b => wI_same
      have nb0 : vp_nar .boolean 0 = b2 false := rfl
      have nb1 : vp_nar .boolean 1 = b2 true := rfl
      by_cases hl : μ.1 8 (4 * p + e) 4 ≤ μ.1 18 (4 * i + e) 9 + 256
      · obtain ⟨ν', en, f1, f2, f3, f4, f5, f6⟩ := fin true (μ.1 18 (4 * i + e) 9 + 256 - μ.1 8 (4 * p + e) 4)
        have hl' : ¬ μ.1 18 (4 * i + e) 9 + 256 < μ.1 8 (4 * p + e) 4 := Int32.not_lt.2 hl
        rw [if_pos hl, if_neg hl', ckZ_ok (Or.inr rfl), ckI_nI he (by decide), ckI_nI he (by decide), nI_clamp (by omega), nb1, w4, if_neg (by decide), es2 _ (fun k => (tN_o (Or.inl (by decide))).trans (t3 _)), bnd_some, st, bnd_some, ← en]
        exact ⟨true, _, ν', rfl, rfl, rfl, f1, fun κ n k a => wI_o a, f2, f3, f4, f5, fun _ => trivial, fun _ => f6⟩
      · obtain ⟨ν', en, f1, f2, f3, f4, f5, f6⟩ := fin false (μ.1 18 (4 * i + e) 9 + 256)
        have hl' : μ.1 18 (4 * i + e) 9 + 256 < μ.1 8 (4 * p + e) 4 := Int32.not_le.1 hl
        rw [if_neg hl, if_pos hl', ckZ_ok (Or.inl rfl), ckI_nI he (by decide), ckI_nI he (by decide), nI_clamp (by omega), nb0, w4, if_pos (show b2 false = 0 from rfl), st, bnd_some, ← en]
        exact ⟨false, _, ν', rfl, rfl, rfl, f1, fun κ n k a => wI_o a, f2, f3, f4, f5, fun q => Bool.noConfusion q, fun _ => f6⟩
end
