/-- the class's end of a cycle -/
theorem c_endCycle {i c : Nat} {μ : Mem} {W X : Int32} (hc : c ≤ 2000000) (h0 : μ.1 12 i 0 = nI c) (hX : μ.1 12 i 10 = X) (hW : W = ((μ.1 12 i 1 &&& μ.1 12 i 2) ||| (μ.1 12 i 3 &&& (μ.1 12 i 2 ^^^ (-1))))) (fu : Nat) :
    ∃ μ', fX3_endCycle (fu + 17) i μ = some ((), wI (wI (wI μ' 12 i 10 W) 16 i (c % 64) W) 12 i 0 (nI (c + 1))) ∧ μ'.2 = μ.2 ∧ (∀ κ n k, ¬ (κ = 17 ∧ (n = 2 * i ∨ n = 2 * i + 1)) → μ'.1 κ n k = μ.1 κ n k) ∧
      ∀ q, q < 16 → (bt W q = bt X q → μ'.1 17 (2 * i) q = μ.1 17 (2 * i) q ∧ μ'.1 17 (2 * i + 1) q = μ.1 17 (2 * i + 1) q) ∧ (bt W q ≠ bt X q → μ'.1 17 (2 * i) q = μ.1 17 (2 * i) q + 1 ∧ μ'.1 17 (2 * i + 1) q = μ.1 17 (2 * i + 1) q + (if bt W q then -(nI c) else nI c)) := by
  unfold fX3_endCycle
  simp only [jn_eq, nm_eq]
  rw [c_levels, bnd_some, ← hW, hX]
  refine lp_ind (P := fun r (g : Mem → Int32 → Int32 → Int32 → Option (Unit × Mem)) => ∀ (x : Nat) (ν1 : Mem), x + r = 16 → ν1.2 = μ.2 → (∀ κ n k, ¬ (κ = 17 ∧ (n = 2 * i ∨ n = 2 * i + 1) ∧ k < x) → ν1.1 κ n k = μ.1 κ n k) →
      (∀ q, q < x → (bt W q = bt X q → ν1.1 17 (2 * i) q = μ.1 17 (2 * i) q ∧ ν1.1 17 (2 * i + 1) q = μ.1 17 (2 * i + 1) q) ∧ (bt W q ≠ bt X q → ν1.1 17 (2 * i) q = μ.1 17 (2 * i) q + 1 ∧ ν1.1 17 (2 * i + 1) q = μ.1 17 (2 * i + 1) q + (if bt W q then -(nI c) else nI c))) →
      ∃ μ', g ν1 W (W ^^^ X) (nI x) = some ((), wI (wI (wI μ' 12 i 10 W) 16 i (c % 64) W) 12 i 0 (nI (c + 1))) ∧ μ'.2 = μ.2 ∧ (∀ κ n k, ¬ (κ = 17 ∧ (n = 2 * i ∨ n = 2 * i + 1)) → μ'.1 κ n k = μ.1 κ n k) ∧
      ∀ q, q < 16 → (bt W q = bt X q → μ'.1 17 (2 * i) q = μ.1 17 (2 * i) q ∧ μ'.1 17 (2 * i + 1) q = μ.1 17 (2 * i + 1) q) ∧ (bt W q ≠ bt X q → μ'.1 17 (2 * i) q = μ.1 17 (2 * i) q + 1 ∧ μ'.1 17 (2 * i + 1) q = μ.1 17 (2 * i + 1) q + (if bt W q then -(nI c) else nI c)))
    (fun g x ν1 hx h2 h1 hl => ?_) (fun r g ih x ν1 hx h2 h1 hl => ?_) 16 fu 0 μ rfl rfl (fun _ _ _ _ => rfl) (fun q hq => absurd hq (by omega))
  all_goals
    have fin : ckD (64 : Int32) (ckI ((wI ν1 12 i 10 W).1 12 i 0 - (wI ν1 12 i 10 W).1 12 i 0 / (64 : Int32) * (64 : Int32)) 64 (some ((), wI (wI (wI ν1 12 i 10 W) 16 i ((wI ν1 12 i 10 W).1 12 i 0 - (wI ν1 12 i 10 W).1 12 i 0 / (64 : Int32) * (64 : Int32)).toNatClampNeg W) 12 i 0 ((wI (wI ν1 12 i 10 W) 16 i ((wI ν1 12 i 10 W).1 12 i 0 - (wI ν1 12 i 10 W).1 12 i 0 / (64 : Int32) * (64 : Int32)).toNatClampNeg W).1 12 i 0 + (1 : Int32))))) = some ((), wI (wI (wI ν1 12 i 10 W) 16 i (c % 64) W) 12 i 0 (nI (c + 1))) := by
      have v0 : (wI ν1 12 i 10 W).1 12 i 0 = nI c := (wI_o (by omega)).trans ((h1 12 i 0 (by omega)).trans h0)
      have hm64 : c % 64 < 64 := Nat.mod_lt _ (by decide)
      rw [v0, show (64 : Int32) = nI 64 from rfl, ckD_ok (by decide), remN (by omega) (by decide) (by decide), ckI_nI hm64 (by decide), nI_clamp (by omega), show (wI (wI ν1 12 i 10 W) 16 i (c % 64) W).1 12 i 0 = nI c from (wI_o (by omega)).trans v0, nI_1]
  · have : x = 16 := by omega
    subst this
    refine ⟨ν1, (if_pos (by decide)).trans fin, h2, fun κ n k q => h1 κ n k (by omega), hl⟩
  · have hx16 : x < 16 := by omega
    have n16 : ¬ (16 : Int32) ≤ nI x := nI_ge (b := 16) hx16 (by decide)
    rw [if_neg n16]
    by_cases hz : ((W ^^^ X) >>> (nI x &&& 31)) = 0
    · rw [if_pos hz]
      refine ⟨ν1, fin, h2, fun κ n k q => h1 κ n k (by omega), fun q hq => ?_⟩
      by_cases hqx : q < x
      · exact hl q hqx
      · have e1 : bt W q = bt X q := by
          have hb : bt ((W ^^^ X) >>> (nI x &&& 31)) (q - x) = false := by rw [hz, bt_0]
          rw [and31 (by omega), bt_shr (by omega) (by omega), show x + (q - x) = q by omega, bt_xor] at hb
          revert hb
          cases bt W q <;> cases bt X q <;> simp
        exact ⟨fun _ => ⟨h1 17 _ q (by omega), h1 17 _ q (by omega)⟩, fun hne => absurd e1 hne⟩
    · rw [if_neg hz, bit_at (by omega), bt_xor, nI_1]
      by_cases e1 : bt W x = bt X x
      · rw [if_pos (show ¬ b2 (bt W x ^^ bt X x) = 1 by rw [e1]; cases bt X x <;> decide)]
        refine ih (x + 1) ν1 (by omega) h2 (fun κ n k a => h1 κ n k (by omega)) (fun q hq => ?_)
        by_cases hqx : q < x
        · exact hl q hqx
        · have : q = x := by omega
          subst this
          exact ⟨fun _ => ⟨h1 17 _ q (by omega), h1 17 _ q (by omega)⟩, fun hne => absurd e1 hne⟩
      · have e2 : (bt W x ^^ bt X x) = true := by revert e1; cases bt W x <;> cases bt X x <;> simp
        have k16 : ∀ {α : Type} (o : Option α), ckI (nI x) 16 o = o := fun o => ckI_nI hx16 (by decide)
        rw [e2, if_neg (show ¬ ¬ b2 true = 1 from fun q => q rfl)]
        simp only [k16, nI_clamp (show x < 2 ^ 31 by omega)]
        rw [bit_at (by omega), show (wI ν1 17 (2 * i) x (ν1.1 17 (2 * i) x + 1)).1 12 i 0 = nI c from (wI_o (by omega)).trans ((h1 12 i 0 (by omega)).trans h0), show (wI ν1 17 (2 * i) x (ν1.1 17 (2 * i) x + 1)).1 17 (2 * i + 1) x = μ.1 17 (2 * i + 1) x from (wI_o (by omega)).trans (h1 17 _ x (by omega)), show ν1.1 17 (2 * i) x = μ.1 17 (2 * i) x from h1 17 _ x (by omega)]
        have go : ∀ v : Int32, v = (if bt W x then -(nI c) else nI c) → ∃ μ', g (wI (wI ν1 17 (2 * i) x (μ.1 17 (2 * i) x + 1)) 17 (2 * i + 1) x (μ.1 17 (2 * i + 1) x + v)) W (W ^^^ X) (nI (x + 1)) = some ((), wI (wI (wI μ' 12 i 10 W) 16 i (c % 64) W) 12 i 0 (nI (c + 1))) ∧ μ'.2 = μ.2 ∧ (∀ κ n k, ¬ (κ = 17 ∧ (n = 2 * i ∨ n = 2 * i + 1)) → μ'.1 κ n k = μ.1 κ n k) ∧
            ∀ q, q < 16 → (bt W q = bt X q → μ'.1 17 (2 * i) q = μ.1 17 (2 * i) q ∧ μ'.1 17 (2 * i + 1) q = μ.1 17 (2 * i + 1) q) ∧ (bt W q ≠ bt X q → μ'.1 17 (2 * i) q = μ.1 17 (2 * i) q + 1 ∧ μ'.1 17 (2 * i + 1) q = μ.1 17 (2 * i + 1) q + (if bt W q then -(nI c) else nI c)) := fun v hv => by
          refine ih (x + 1) _ (by omega) h2 (fun κ n k a => ?_) (fun q hq => ?_)
          · rw [wI_o (by omega), wI_o (by omega)]; exact h1 κ n k (by omega)
          · by_cases hqx : q < x
            · rw [wI_o (by omega), wI_o (by omega), wI_o (by omega), wI_o (by omega)]; exact hl q hqx
            · have : q = x := by omega
              subst this
              refine ⟨fun h => absurd h e1, fun _ => ⟨?_, ?_⟩⟩
              · rw [wI_o (by omega)]; exact wI_same
              · rw [wI_same, hv]
        cases hb : bt W x
        · rw [if_pos (show ¬ b2 false = 1 by decide)]; exact go _ (by rw [hb]; rfl)
        · rw [if_neg (show ¬ ¬ b2 true = 1 from fun q => q rfl)]; exact go _ (by rw [hb]; rfl)
/-- the model's flags -/
theorem m_flags {ν : Mem} {F : Nat → Bool} (hF : ∀ f, f < 8 → tN ν (100 + f) = b2 (F f)) (fu : Nat) : ∃ ν', mD (fu + 17) ν 0 = (bnd (fX13_recordLevels (fu + 17) 0 ν') fun _ μ13 => ckI (1 : Int32) (if 0 = 4 then 7000 else 700) <| ckI (1 : Int32) (if 0 = 4 then 7000 else 700) <| some ((), wI μ13 27 0 (1 : Int32).toNatClampNeg ((μ13.1 27 0 (1 : Int32).toNatClampNeg) + (1 : Int32)))) ∧
      ν'.2 = ν.2 ∧ (∀ κ n k, ¬ (κ = 27 ∧ n = 0 ∧ 100 ≤ k ∧ k < 108) → ν'.1 κ n k = ν.1 κ n k) ∧ ∀ f, f < 8 → tN ν' (100 + f) = b2 (if bt (ν.1 26 0 16) f then true else if bt (ν.1 26 0 17) f then false else F f) := by
  unfold mD
  rw [show fu + 17 = (fu + 8) + (8 + 1) by omega]
  refine lp_ind (P := fun r (g : Mem → Int32 → Option (Unit × Mem)) => ∀ (x : Nat) (ν1 : Mem), x + r = 8 → ν1.2 = ν.2 → (∀ κ n k, ¬ (κ = 27 ∧ n = 0 ∧ 100 ≤ k ∧ k < 100 + x) → ν1.1 κ n k = ν.1 κ n k) → (∀ f, f < x → tN ν1 (100 + f) = b2 (if bt (ν.1 26 0 16) f then true else if bt (ν.1 26 0 17) f then false else F f)) →
      ∃ ν', g ν1 (nI x) = (bnd (fX13_recordLevels (fu + 8 + (8 + 1)) 0 ν') fun _ μ13 => ckI (1 : Int32) (if 0 = 4 then 7000 else 700) <| ckI (1 : Int32) (if 0 = 4 then 7000 else 700) <| some ((), wI μ13 27 0 (1 : Int32).toNatClampNeg ((μ13.1 27 0 (1 : Int32).toNatClampNeg) + (1 : Int32)))) ∧
      ν'.2 = ν.2 ∧ (∀ κ n k, ¬ (κ = 27 ∧ n = 0 ∧ 100 ≤ k ∧ k < 108) → ν'.1 κ n k = ν.1 κ n k) ∧ ∀ f, f < 8 → tN ν' (100 + f) = b2 (if bt (ν.1 26 0 16) f then true else if bt (ν.1 26 0 17) f then false else F f))
    (fun g x ν1 hx h2 h1 hl => ?_) (fun r g ih x ν1 hx h2 h1 hl => ?_) 8 (fu + 8) 0 ν rfl rfl (fun _ _ _ _ => rfl) (fun q hq => absurd hq (by omega))
  · have : x = 8 := by omega
    subst this
    exact ⟨ν1, if_pos (by decide), h2, h1, hl⟩
  · have hx8 : x < 8 := by omega
    have kx : ∀ {α : Type} (o : Option α), ckI (nI (100 + x)) (if 0 = 4 then 7000 else 700) o = o := fun o => ckI_nI (r700 (by omega)) (by decide)
    rw [if_neg (show ¬ (8 : Int32) ≤ nI x from nI_ge (b := 8) hx8 (by decide)), show (100 : Int32) + nI x = nI (100 + x) from nI_add 100 x]
    simp only [kx, nI_clamp (show 100 + x < 2 ^ 31 by omega)]
    rw [show ν1.1 26 0 16 = ν.1 26 0 16 from h1 _ _ _ (by omega), show ν1.1 26 0 17 = ν.1 26 0 17 from h1 _ _ _ (by omega), bit_at (by omega), bit_at (by omega), nI_1, show ν1.1 27 0 (100 + x) = b2 (F x) from (h1 27 0 _ (by omega)).trans (hF x hx8)]
    have go : ∀ b : Bool, b = (if bt (ν.1 26 0 16) x then true else if bt (ν.1 26 0 17) x then false else F x) → ∃ ν', g (wI ν1 27 0 (100 + x) (b2 b)) (nI (x + 1)) = (bnd (fX13_recordLevels (fu + 8 + (8 + 1)) 0 ν') fun _ μ13 => ckI (1 : Int32) (if 0 = 4 then 7000 else 700) <| ckI (1 : Int32) (if 0 = 4 then 7000 else 700) <| some ((), wI μ13 27 0 (1 : Int32).toNatClampNeg ((μ13.1 27 0 (1 : Int32).toNatClampNeg) + (1 : Int32)))) ∧
        ν'.2 = ν.2 ∧ (∀ κ n k, ¬ (κ = 27 ∧ n = 0 ∧ 100 ≤ k ∧ k < 108) → ν'.1 κ n k = ν.1 κ n k) ∧ ∀ f, f < 8 → tN ν' (100 + f) = b2 (if bt (ν.1 26 0 16) f then true else if bt (ν.1 26 0 17) f then false else F f) := fun b hb => by
      refine ih (x + 1) _ (by omega) h2 (fun κ n k a => ?_) (fun f hf => ?_)
      · rw [wI_o (by omega)]; exact h1 κ n k (by omega)
      · rw [tN_wI]
        by_cases hfx : f = x
        · subst hfx; rw [if_pos rfl, hb]
        · rw [if_neg (by omega)]; exact hl f (by omega)
    cases h16 : bt (ν.1 26 0 16) x
    · rw [if_pos (show ¬ b2 false = 1 by decide)]
      cases h17 : bt (ν.1 26 0 17) x
      · rw [if_pos (show ¬ b2 false = 1 by decide)]; exact go (F x) (by rw [h16, h17]; rfl)
      · rw [if_neg (show ¬ ¬ b2 true = 1 from fun q => q rfl)]; exact go false (by rw [h16, h17]; rfl)
    · rw [if_neg (show ¬ ¬ b2 true = 1 from fun q => q rfl)]; exact go true (by rw [h16]; rfl)
/-- the model writes all that was laid aside, engine by engine -/
theorem m_writeC {ν : Mem} {L D : Nat → Bool} (hw : ∀ e, e < 4 → wok ν e ∧ (ν.1 28 6 e = -1 ∨ ∃ b s : Nat, b < 16 ∧ s ≤ 16 ∧ tN ν (476 + 21 * e + 9) = nI b ∧ tN ν (476 + 21 * e + 10) = nI s)) (hL : ∀ q, q < 16 → tN ν (4 + 6 * q + 0) = b2 (L q) ∧ tN ν (4 + 6 * q + 1) = b2 (D q)) (fu : Nat) :
    ∃ ν', mC (fu + 17) ν 0 = mD (fu + 17) ν' 0 ∧ ν'.2 = ν.2 ∧ (∀ κ n k, ¬ (κ = 27 ∧ n = 0 ∧ 4 ≤ k ∧ k < 100 ∧ (k - 4) % 6 < 2) → ν'.1 κ n k = ν.1 κ n k) ∧ ∀ q, q < 16 → tN ν' (4 + 6 * q + 0) = b2 (pnA ν 4 L D q).1 ∧ tN ν' (4 + 6 * q + 1) = b2 (pnA ν 4 L D q).2 := by
  unfold mC
  rw [show fu + 17 = (fu + 12) + (4 + 1) by omega]
  refine lp_ind (P := fun r (g : Mem → Int32 → Option (Unit × Mem)) => ∀ (e : Nat) (ν1 : Mem), e + r = 4 → ν1.2 = ν.2 → (∀ κ n k, ¬ (κ = 27 ∧ n = 0 ∧ 4 ≤ k ∧ k < 100 ∧ (k - 4) % 6 < 2) → ν1.1 κ n k = ν.1 κ n k) → (∀ q, q < 16 → tN ν1 (4 + 6 * q + 0) = b2 (pnA ν e L D q).1 ∧ tN ν1 (4 + 6 * q + 1) = b2 (pnA ν e L D q).2) →
      ∃ ν', g ν1 (nI e) = mD (fu + 12 + (4 + 1)) ν' 0 ∧ ν'.2 = ν.2 ∧ (∀ κ n k, ¬ (κ = 27 ∧ n = 0 ∧ 4 ≤ k ∧ k < 100 ∧ (k - 4) % 6 < 2) → ν'.1 κ n k = ν.1 κ n k) ∧ ∀ q, q < 16 → tN ν' (4 + 6 * q + 0) = b2 (pnA ν 4 L D q).1 ∧ tN ν' (4 + 6 * q + 1) = b2 (pnA ν 4 L D q).2)
    (fun g e ν1 he h2 h1 hl => ?_) (fun r g ih e ν1 he h2 h1 hl => ?_) 4 (fu + 12) 0 ν rfl rfl (fun _ _ _ _ => rfl) hL
  · have : e = 4 := by omega
    subst this
    exact ⟨ν1, if_pos (by decide), h2, h1, hl⟩
  · have he4 : e < 4 := by omega
    obtain ⟨w1, w2⟩ := hw e he4
    have c28 : ∀ n, ν1.1 28 n e = ν.1 28 n e := fun n => h1 28 n e (by omega)
    have cS : ∀ k, 476 ≤ k → tN ν1 k = tN ν k := fun k hk => h1 27 0 k (by omega)
    obtain ⟨ν2, a1, a2, a3, a4⟩ := m_writeAll (ν := ν1) (L := fun q => (pnA ν e L D q).1) (D := fun q => (pnA ν e L D q).2) he4 (wok_congr (fun n _ => c28 n) w1) (by rw [c28, cS _ (by omega), cS _ (by omega)]; exact w2) (fun q hq => (hl q hq).1) (fun q hq => (hl q hq).2) fu
    rw [if_neg (show ¬ (4 : Int32) ≤ nI e from nI_ge (b := 4) he4 (by decide)), show fu + 12 + (4 + 1) = fu + 17 by omega, a1, bnd_some, nI_1]
    have := ih (e + 1) ν2 (by omega) (a2.trans h2) (fun κ n k q => (a3 κ n k q).trans (h1 κ n k q)) (fun q hq => ?_)
    · rw [show fu + 12 + (4 + 1) = fu + 17 by omega] at this; exact this
    · have e1 : pnA ν (e + 1) L D q = apF ν1 e (fun q => (pnA ν e L D q).1) (fun q => (pnA ν e L D q).2) q := by
        rw [apF_congr (ν' := ν1) (ν := ν) (fun n _ => c28 n) (cS _ (by omega)) (cS _ (by omega))]
        rfl
      rw [e1]; exact a4 q hq
