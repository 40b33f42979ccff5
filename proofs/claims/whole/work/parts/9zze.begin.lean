/-! LOAD: the class's machine begins anew -/
def BgS (κ a : Nat) : Prop := (κ = 12 ∧ a = 0) ∨ (κ = 13 ∧ a = 0) ∨ (κ = 17 ∧ a < 2) ∨ (κ = 18 ∧ a < 4) ∨ (κ = 19 ∧ a < 8) ∨ (κ = 21 ∧ a < 4)
def FBg (μ μ' : Mem) : Prop := (∀ κ a q, ¬ BgS κ a → μ'.1 κ a q = μ.1 κ a q) ∧ μ'.2 = μ.2
theorem fbg_rfl {μ : Mem} : FBg μ μ := ⟨fun _ _ _ _ => rfl, rfl⟩
theorem fbg_trans {a b d : Mem} (h : FBg a b) (g : FBg b d) : FBg a d := ⟨fun κ n k z => (g.1 κ n k z).trans (h.1 κ n k z), g.2.trans h.2⟩
theorem fbg_w {μ : Mem} {κ a q : Nat} {v : Int32} (h : BgS κ a) : FBg μ (wI μ κ a q v) := ⟨fun κ' a' q' z => wI_o (fun w => z (by rw [w.1, w.2.1]; exact h)), rfl⟩
/-- one engine begins -/
def EB (l : Nat) (μ0 : Mem) (e : Nat) (μ : Mem) : Prop :=
  μ.1 18 e 10 = 1 ∧ (∀ k, k < 6 → μ.1 21 e k = 0) ∧ μ.1 18 e 0 = μ0.1 8 l 1 ∧ (∀ k, k < 10 → k ≠ 0 → k ≠ 6 → k ≠ 9 → μ.1 18 e k = 0) ∧ μ.1 18 e 6 = 32 ∧ μ.1 18 e 9 = μ0.1 8 l 4 - 256 ∧
  ∃ rm : Nat, rm ≤ 8 ∧ μ0.1 8 l 19 = nI rm ∧ μ.1 19 (2 * e) 0 = 0 ∧ μ.1 19 (2 * e) 1 = nI rm ∧ μ.1 19 (2 * e) 2 = 0 ∧ μ.1 19 (2 * e + 1) 0 = 0 ∧ μ.1 19 (2 * e + 1) 1 = nI (8 - rm) ∧ μ.1 19 (2 * e + 1) 2 = 0
theorem eb_c {l e : Nat} {μ0 μ μ' : Mem} (h : EB l μ0 e μ) (e1 : ∀ k, μ'.1 18 e k = μ.1 18 e k) (e2 : ∀ k, μ'.1 21 e k = μ.1 21 e k) (e3 : ∀ k, k < 3 → μ'.1 19 (2 * e) k = μ.1 19 (2 * e) k ∧ μ'.1 19 (2 * e + 1) k = μ.1 19 (2 * e + 1) k) : EB l μ0 e μ' := by
  obtain ⟨h1, h2, h3, h4, h5, h6, rm, r1, r2, q0, q1, q2, q3, q4, q5⟩ := h
  exact ⟨(e1 _).trans h1, fun k hk => (e2 k).trans (h2 k hk), (e1 _).trans h3, fun k a b c d => (e1 k).trans (h4 k a b c d), (e1 _).trans h5, (e1 _).trans h6, rm, r1, r2, (e3 0 (by decide)).1.trans q0, (e3 1 (by decide)).1.trans q1, (e3 2 (by decide)).1.trans q2, (e3 0 (by decide)).2.trans q3, (e3 1 (by decide)).2.trans q4, (e3 2 (by decide)).2.trans q5⟩
theorem c_begin1 {e l rm : Nat} {μ : Mem} (he : e < 4) (hr : μ.1 8 l 19 = nI rm) (hrm : rm ≤ 8) (fu : Nat) : ∃ μ', fX1_begin (fu + 7) e l μ = some ((), μ') ∧ μ'.2 = μ.2 ∧ (∀ κ a q, ¬ (κ = 18 ∧ a = e) → ¬ (κ = 21 ∧ a = e) → ¬ (κ = 19 ∧ (a = 2 * e ∨ a = 2 * e + 1)) → μ'.1 κ a q = μ.1 κ a q) ∧ EB l μ e μ' := by
  obtain ⟨μ2, m1, m2, m3, m4, m5, m6, m7, q0, q1, q2, q3, q4, q5⟩ := c_reset (j := e) (l := l) (μ := μ) hr hrm
  unfold fX1_begin
  simp only [jn_eq, nm_eq]
  rw [m1, bnd_some, ckZ_ok (Or.inr rfl)]
  refine (lp_ind (P := fun d (f : Mem → Int32 → Option (Unit × Mem)) => ∀ y μ1, y + d = 6 → (∀ κ a q, ¬ (κ = 21 ∧ a = e) → μ1.1 κ a q = (wI μ2 18 e 10 1).1 κ a q) → μ1.2 = μ2.2 → (∀ k, k < y → μ1.1 21 e k = 0) → ∃ μ', f μ1 (nI y) = some ((), μ') ∧ μ'.2 = μ.2 ∧ (∀ κ a q, ¬ (κ = 18 ∧ a = e) → ¬ (κ = 21 ∧ a = e) → ¬ (κ = 19 ∧ (a = 2 * e ∨ a = 2 * e + 1)) → μ'.1 κ a q = μ.1 κ a q) ∧ EB l μ e μ') (fun f y μ1 hy f1 f2 hc => ?_) (fun d f ih y μ1 hy f1 f2 hc => ?_) 6 fu) 0 _ rfl (fun _ _ _ _ => rfl) rfl (fun k hk => absurd hk (by omega))
  · have y6 : y = 6 := by omega
    subst y6
    refine ⟨μ1, if_pos (by decide), f2.trans m2, fun κ a q z1 z2 z3 => ?_, ?_⟩
    · rw [f1 κ a q z2, wI_o (by omega)]; exact m3 κ a q (by omega) (by omega)
    · have g : ∀ k, k ≠ 10 → μ1.1 18 e k = μ2.1 18 e k := fun k hk => by rw [f1 _ _ _ (by omega), wI_o (by omega)]
      have g' : ∀ a k, μ1.1 19 a k = μ2.1 19 a k := fun a k => by rw [f1 _ _ _ (by omega), wI_o (by omega)]
      refine ⟨(f1 _ _ _ (by omega)).trans wI_same, hc, (g 0 (by decide)).trans m4, fun k a b c d => (g k (by omega)).trans (m5 k a b c d), (g 6 (by decide)).trans m6, (g 9 (by decide)).trans m7, rm, hrm, hr, ?_⟩
      rw [g', g', g', g', g', g']
      exact ⟨q0, q1, q2, q3, q4, q5⟩
  · rw [if_neg (show ¬ (6 : Int32) ≤ nI y from fun z => absurd ((nI_leI (a := 6) (by decide) (by omega)).1 z) (by omega)), ckI_nI (show y < 6 by omega) (by decide), nI_clamp (n := y) (by omega), nI_1]
    refine ih (y + 1) _ (by omega) (fun κ a q z => by rw [wI_o (by omega)]; exact f1 κ a q z) f2 (fun k hk => ?_)
    by_cases g : k = y
    · subst g; exact wI_same
    · rw [wI_o (by omega)]; exact hc k (by omega)
/-- the machine's state, as at first -/
def MB (p : Nat) (μ0 μ : Mem) : Prop :=
  μ.1 12 0 0 = 0 ∧ μ.1 12 0 1 = 0 ∧ μ.1 12 0 2 = 0 ∧ μ.1 12 0 3 = μ0.1 5 p 1 ∧ μ.1 12 0 4 = 0 ∧ μ.1 12 0 5 = -1
theorem mb_c {p : Nat} {μ0 μ μ' : Mem} (h : MB p μ0 μ) (e : ∀ k, k < 8 → μ'.1 12 0 k = μ.1 12 0 k) : MB p μ0 μ' := by
  obtain ⟨h1, h2, h3, h4, h5, h6⟩ := h
  exact ⟨(e 0 (by decide)).trans h1, (e 1 (by decide)).trans h2, (e 2 (by decide)).trans h3, (e 3 (by decide)).trans h4, (e 4 (by decide)).trans h5, (e 5 (by decide)).trans h6⟩
def bgC : (Mem → Int32 → Option (Unit × Mem)) → Mem → Int32 → Option (Unit × Mem) := fun self μ7 x8 =>
  if (16 : Int32) ≤ x8 then some ((), μ7) else ckI x8 (16) <| ckI x8 (16) <| self (wI (wI μ7 17 (2 * 0) x8.toNatClampNeg (0 : Int32)) 17 (2 * 0 + 1) x8.toNatClampNeg (0 : Int32)) (x8 + (1 : Int32))
def bgB (p F : Nat) : (Mem → Int32 → Option (Unit × Mem)) → Mem → Int32 → Option (Unit × Mem) := fun self μ4 x5 =>
  if (4 : Int32) ≤ x5 then bnd (fX3_levels 0 (wI μ4 12 0 8 (0 : Int32))) fun x17 μ16 => lp (fun _ _ => none) F bgC (wI μ16 12 0 10 x17) (0 : Int32)
  else ckI x5 (4) <| ckI x5 (4) <| bnd (fX1_begin F (4 * 0 + x5.toNatClampNeg) (4 * p + x5.toNatClampNeg) μ4) fun _ μ23 => self μ23 (x5 + (1 : Int32))
def ResB (p : Nat) (μ μ' : Mem) : Prop := FBg μ μ' ∧ MB p μ μ' ∧ μ'.1 12 0 8 = 0 ∧ μ'.1 12 0 10 = μ.1 5 p 1 ∧ (∀ a, a < 16 → μ'.1 13 0 a = 0) ∧ (∀ q, q < 16 → μ'.1 17 0 q = 0 ∧ μ'.1 17 1 q = 0) ∧ ∀ e, e < 4 → EB (4 * p + e) μ e μ'
theorem c_bC (fu : Nat) : ∀ (d z : Nat) (μ3 μ2 : Mem), z + d = 16 → (∀ κ a q, ¬ (κ = 17 ∧ a < 2) → μ3.1 κ a q = μ2.1 κ a q) → μ3.2 = μ2.2 → (∀ q, q < z → μ3.1 17 0 q = 0 ∧ μ3.1 17 1 q = 0) → ∃ μ', lp (fun _ _ => none) (fu + (d + 1)) bgC μ3 (nI z) = some ((), μ') ∧ (∀ κ a q, ¬ (κ = 17 ∧ a < 2) → μ'.1 κ a q = μ2.1 κ a q) ∧ μ'.2 = μ2.2 ∧ ∀ q, q < 16 → μ'.1 17 0 q = 0 ∧ μ'.1 17 1 q = 0 := by
  intro d
  induction d with
  | zero =>
    intro z μ3 μ2 hz k1 k2 k3
    rw [lp_succ]
    exact ⟨μ3, if_pos ((nI_leI (a := 16) (by decide) (by omega)).2 (by omega)), k1, k2, fun q hq => k3 q (by omega)⟩
  | succ d ih =>
    intro z μ3 μ2 hz k1 k2 k3
    rw [show fu + (d + 1 + 1) = (fu + (d + 1)) + 1 from rfl, lp_succ]
    show ∃ μ', (if (16 : Int32) ≤ nI z then _ else _) = _ ∧ _
    rw [if_neg (show ¬ (16 : Int32) ≤ nI z from fun w => absurd ((nI_leI (a := 16) (by decide) (by omega)).1 w) (by omega)), ckI_nI (show z < 16 by omega) (by decide), ckI_nI (show z < 16 by omega) (by decide), nI_clamp (n := z) (by omega), nI_1]
    refine ih (z + 1) _ μ2 (by omega) (fun κ a q w => by rw [wI_o (by omega), wI_o (by omega)]; exact k1 κ a q w) k2 (fun q hq => ?_)
    by_cases g : q = z
    · subst g; exact ⟨by rw [wI_o (by omega)]; exact wI_same, wI_same⟩
    · rw [wI_o (by omega), wI_o (by omega), wI_o (by omega), wI_o (by omega)]; exact k3 q (by omega)
theorem c_bB {p : Nat} {μ : Mem} (hr : ∀ e, e < 4 → ∃ rm : Nat, rm ≤ 8 ∧ μ.1 8 (4 * p + e) 19 = nI rm) (F fu gu : Nat) (hF : F = fu + 17) (hF' : F = gu + 7) : ∀ d y f2 μ2, y + d = 4 → FBg μ μ2 → MB p μ μ2 → (∀ a, a < 16 → μ2.1 13 0 a = 0) → (∀ e, e < y → EB (4 * p + e) μ e μ2) → ∃ μ', lp (fun _ _ => none) (f2 + (d + 1)) (bgB p F) μ2 (nI y) = some ((), μ') ∧ ResB p μ μ' := by
  intro d
  induction d with
  | zero =>
    intro y f2 μ2 hy2 g1 g2 g3 g4
    rw [lp_succ]
    show ∃ μ', (if (4 : Int32) ≤ nI y then _ else _) = _ ∧ _
    rw [if_pos (show (4 : Int32) ≤ nI y from (nI_leI (a := 4) (by decide) (by omega)).2 (by omega))]
    unfold fX3_levels
    rw [bnd_some]
    have lv : ((wI μ2 12 0 8 0).1 12 0 1 &&& (wI μ2 12 0 8 0).1 12 0 2 ||| (wI μ2 12 0 8 0).1 12 0 3 &&& ((wI μ2 12 0 8 0).1 12 0 2 ^^^ (-1 : Int32))) = μ.1 5 p 1 := by
      rw [wI_o (by omega), wI_o (by omega), wI_o (by omega), g2.2.1, g2.2.2.1, g2.2.2.2.1]
      apply bt_ext
      intro q hq
      rw [bt_or, bt_and, bt_and, bt_not hq, bt_0]
      simp
    rw [lv, hF]
    obtain ⟨μ3, k0, k1, k2, k3⟩ := c_bC fu 16 0 (wI (wI μ2 12 0 8 0) 12 0 10 (μ.1 5 p 1)) (wI (wI μ2 12 0 8 0) 12 0 10 (μ.1 5 p 1)) rfl (fun _ _ _ _ => rfl) rfl (fun q hq => absurd hq (by omega))
    have k4 : ∀ κ a q, ¬ (κ = 17 ∧ a < 2) → ¬ (κ = 12 ∧ a = 0 ∧ (q = 8 ∨ q = 10)) → μ3.1 κ a q = μ2.1 κ a q := fun κ a q z1 z2 => by rw [k1 κ a q z1, wI_o (by omega), wI_o (by omega)]
    refine ⟨μ3, k0, ⟨fun κ a q w => ?_, k2.trans g1.2⟩, mb_c g2 (fun k hk => k4 _ _ _ (by omega) (by omega)), ?_, ?_, fun a ha => (k4 _ _ _ (by omega) (by omega)).trans (g3 a ha), k3, fun e he => eb_c (g4 e (by omega)) (fun k => k4 _ _ _ (by omega) (by omega)) (fun k => k4 _ _ _ (by omega) (by omega)) (fun k _ => ⟨k4 _ _ _ (by omega) (by omega), k4 _ _ _ (by omega) (by omega)⟩)⟩
    · rw [k4 κ a q (fun v => w (Or.inr (Or.inr (Or.inl v)))) (fun v => w (Or.inl ⟨v.1, v.2.1⟩))]; exact g1.1 κ a q w
    · rw [k1 _ _ _ (by omega), wI_o (by omega)]; exact wI_same
    · rw [k1 _ _ _ (by omega)]; exact wI_same
  | succ d ih =>
    intro y f2 μ2 hy2 g1 g2 g3 g4
    obtain ⟨rm, rm1, rm2⟩ := hr y (by omega)
    have o8 : ∀ l k, μ2.1 8 l k = μ.1 8 l k := fun l k => g1.1 _ _ _ (fun w => by unfold BgS at w; omega)
    obtain ⟨μ3, b1, b2, b3, b4⟩ := c_begin1 (l := 4 * p + y) (μ := μ2) (show y < 4 by omega) ((o8 _ _).trans rm2) rm1 gu
    rw [show f2 + (d + 1 + 1) = (f2 + (d + 1)) + 1 from rfl, lp_succ]
    show ∃ μ', (if (4 : Int32) ≤ nI y then _ else ckI (nI y) 4 (ckI (nI y) 4 (bnd (fX1_begin F (4 * 0 + (nI y).toNatClampNeg) (4 * p + (nI y).toNatClampNeg) μ2) _))) = _ ∧ _
    rw [if_neg (show ¬ (4 : Int32) ≤ nI y from fun w => absurd ((nI_leI (a := 4) (by decide) (by omega)).1 w) (by omega)), ckI_nI (show y < 4 by omega) (by decide), ckI_nI (show y < 4 by omega) (by decide), nI_clamp (n := y) (by omega), show 4 * 0 + y = y by omega, hF', b1, bnd_some, nI_1, ← hF']
    refine ih (y + 1) f2 μ3 (by omega) ⟨fun κ a q w => ?_, b2.trans g1.2⟩ (mb_c g2 (fun k _ => b3 _ _ _ (by omega) (by omega) (by omega))) (fun a ha => (b3 _ _ _ (by omega) (by omega) (by omega)).trans (g3 a ha)) (fun e he => ?_)
    · have : ¬ (κ = 18 ∧ a = y) ∧ ¬ (κ = 21 ∧ a = y) ∧ ¬ (κ = 19 ∧ (a = 2 * y ∨ a = 2 * y + 1)) := by
        unfold BgS at w
        omega
      rw [b3 κ a q this.1 this.2.1 this.2.2]; exact g1.1 κ a q w
    · by_cases g : e = y
      · subst g
        obtain ⟨h1, h2, h3, h4, h5, h6, rm', r1, r2, qq⟩ := b4
        exact ⟨h1, h2, h3.trans (o8 _ _), h4, h5, h6.trans (by rw [o8]), rm', r1, (o8 _ _).symm.trans r2, qq⟩
      · exact eb_c (g4 e (by omega)) (fun k => b3 _ _ _ (by omega) (by omega) (by omega)) (fun k => b3 _ _ _ (by omega) (by omega) (by omega)) (fun k _ => ⟨b3 _ _ _ (by omega) (by omega) (by omega), b3 _ _ _ (by omega) (by omega) (by omega)⟩)
def bgA (p F : Nat) : (Mem → Int32 → Option (Unit × Mem)) → Mem → Int32 → Option (Unit × Mem) := fun self μ1 x2 =>
  if (16 : Int32) ≤ x2 then lp (fun _ _ => none) F (bgB p F) μ1 (0 : Int32) else ckI x2 (16) <| self (wI μ1 13 0 x2.toNatClampNeg (0 : Int32)) (x2 + (1 : Int32))
theorem c_bA {p : Nat} {μ : Mem} (hr : ∀ e, e < 4 → ∃ rm : Nat, rm ≤ 8 ∧ μ.1 8 (4 * p + e) 19 = nI rm) (fu : Nat) : ∀ d y f2 μ1, y + d = 16 → FBg μ μ1 → MB p μ μ1 → (∀ a, a < y → μ1.1 13 0 a = 0) → ∃ μ', lp (fun _ _ => none) (f2 + (d + 1)) (bgA p (fu + 17)) μ1 (nI y) = some ((), μ') ∧ ResB p μ μ' := by
  intro d
  induction d with
  | zero =>
    intro y f2 μ1 hy f1 f3 hc
    rw [lp_succ]
    show ∃ μ', (if (16 : Int32) ≤ nI y then _ else _) = _ ∧ _
    rw [if_pos (show (16 : Int32) ≤ nI y from (nI_leI (a := 16) (by decide) (by omega)).2 (by omega))]
    exact c_bB hr (fu + 17) fu (fu + 10) rfl rfl 4 0 (fu + 12) μ1 rfl f1 f3 (fun a ha => hc a (by omega)) (fun e he => absurd he (by omega))
  | succ d ih =>
    intro y f2 μ1 hy f1 f3 hc
    rw [show f2 + (d + 1 + 1) = (f2 + (d + 1)) + 1 from rfl, lp_succ]
    show ∃ μ', (if (16 : Int32) ≤ nI y then _ else _) = _ ∧ _
    rw [if_neg (show ¬ (16 : Int32) ≤ nI y from fun w => absurd ((nI_leI (a := 16) (by decide) (by omega)).1 w) (by omega)), ckI_nI (show y < 16 by omega) (by decide), nI_clamp (n := y) (by omega), nI_1]
    refine ih (y + 1) f2 _ (by omega) (fbg_trans f1 (fbg_w (Or.inr (Or.inl ⟨rfl, rfl⟩)))) (mb_c f3 (fun k _ => wI_o (by omega))) (fun a ha => ?_)
    by_cases g : a = y
    · subst g; exact wI_same
    · rw [wI_o (by omega)]; exact hc a (by omega)
def bg0 (p : Nat) (μ : Mem) : Mem := wI (wI (wI (wI (wI (wI μ 12 0 0 0) 12 0 1 0) 12 0 2 0) 12 0 3 (μ.1 5 p 1)) 12 0 4 0) 12 0 5 (-1)
theorem c_begEq {p F : Nat} {μ : Mem} : fX3_begin F 0 p μ = lp (fun _ _ => none) F (bgA p F) (bg0 p μ) 0 := by
  unfold fX3_begin bgA bgB bgC bg0
  simp only [jn_eq, nm_eq]
  rw [show (wI (wI (wI μ 12 0 0 0) 12 0 1 0) 12 0 2 0).1 5 p 1 = μ.1 5 p 1 from by rw [wI_o (by omega), wI_o (by omega), wI_o (by omega)]]
theorem c_begin {p : Nat} {μ : Mem} (hr : ∀ e, e < 4 → ∃ rm : Nat, rm ≤ 8 ∧ μ.1 8 (4 * p + e) 19 = nI rm) (fu : Nat) : ∃ μ', fX3_begin (fu + 17) 0 p μ = some ((), μ') ∧ ResB p μ μ' := by
  rw [c_begEq]
  refine c_bA hr fu 16 0 fu _ rfl ?_ ?_ (fun a ha => absurd ha (by omega))
  · exact fbg_trans (fbg_w (Or.inl ⟨rfl, rfl⟩)) (fbg_trans (fbg_w (Or.inl ⟨rfl, rfl⟩)) (fbg_trans (fbg_w (Or.inl ⟨rfl, rfl⟩)) (fbg_trans (fbg_w (Or.inl ⟨rfl, rfl⟩)) (fbg_trans (fbg_w (Or.inl ⟨rfl, rfl⟩)) (fbg_w (Or.inl ⟨rfl, rfl⟩))))))
  · unfold bg0
    refine ⟨?_, ?_, ?_, ?_, ?_, wI_same⟩
    · rw [wI_o (by omega), wI_o (by omega), wI_o (by omega), wI_o (by omega), wI_o (by omega), wI_same]
    · rw [wI_o (by omega), wI_o (by omega), wI_o (by omega), wI_o (by omega), wI_same]
    · rw [wI_o (by omega), wI_o (by omega), wI_o (by omega), wI_same]
    · rw [wI_o (by omega), wI_o (by omega), wI_same]
    · rw [wI_o (by omega), wI_same]
