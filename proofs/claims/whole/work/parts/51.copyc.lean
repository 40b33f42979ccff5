/-- how many of a kind a machine of the class has; 0: none -/
def wd (a : Nat) : Nat := if a = 12 ∨ a = 13 ∨ a = 15 ∨ a = 16 then 1 else if a = 17 then 2 else if a = 18 ∨ a = 21 then 4 else if a = 19 ∨ a = 20 then 8 else 0
/-- a set of cells that lie all in machine m -/
def Own (m : Nat) (S : Nat → Nat → Nat → Bool) : Prop := ∀ a b c, S a b c = true → wd a ≠ 0 ∧ b / wd a = m
theorem own_0 {m : Nat} : Own m (fun _ _ _ => false) := fun _ _ _ h => Bool.noConfusion h
theorem own_I {m : Nat} {S : Nat → Nat → Nat → Bool} {κ n k : Nat} (h : Own m S) (hw : wd κ ≠ 0) (hn : n / wd κ = m) : Own m (adI S κ n k) := fun a b c q => by
  unfold adI at q
  rw [Bool.or_eq_true, Bool.and_eq_true, Bool.and_eq_true] at q
  rcases q with q | q
  · exact h a b c q
  · rw [of_decide_eq_true q.1.1, of_decide_eq_true q.1.2]; exact ⟨hw, hn⟩
theorem own_C {m : Nat} {S : Nat → Nat → Nat → Bool} {κ n k : Nat} (h : Own m S) (hw : wd κ ≠ 0) (hn : n / wd κ = m) : Own m (adC S κ n k) := fun a b c q => by
  unfold adC at q
  rw [Bool.or_eq_true, Bool.and_eq_true, Bool.and_eq_true] at q
  rcases q with q | q
  · exact h a b c q
  · rw [of_decide_eq_true q.1.1, of_decide_eq_true q.1.2]; exact ⟨hw, hn⟩
theorem cl_own {m : Nat} {S : Nat → Nat → Nat → Bool} (h : Own m S) {a b : Nat} (hb : b / wd a ≠ m) : Cl S a b := fun c => by
  cases e : S a b c
  · rfl
  · exact absurd (h a b c e).2 hb
theorem own_Q {m : Nat} {S : Nat → Nat → Nat → Bool} {n : Nat} (h : Own m S) (hn : n / 8 = m) : Own m (adQ S n) :=
  own_C (own_I (own_I (own_I h (by decide) hn) (by decide) hn) (by decide) hn) (by decide) hn
theorem own_N {m : Nat} {S : Nat → Nat → Nat → Bool} {n : Nat} (h : Own m S) (hn : n / 4 = m) : Own m (adN S n) :=
  own_I (own_I (own_I (own_I (own_I (own_I (own_I (own_I (own_I (own_I (own_I h (by decide) hn) (by decide) hn) (by decide) hn) (by decide) hn) (by decide) hn) (by decide) hn) (by decide) hn) (by decide) hn) (by decide) hn) (by decide) hn) (by decide) hn
theorem own_E {m : Nat} {S : Nat → Nat → Nat → Bool} {n : Nat} (h : Own m S) (hn : n / 4 = m) : Own m (adE S n) :=
  own_C (own_Q (own_Q (own_N h hn) (by omega)) (by omega)) (by decide) hn
/-- where a cell of a machine is copied from: the same cell of machine m -/
def tau (m : Nat) (a b : Nat) : Nat := wd a * m + b % wd a
/-- what the copying to machine m writes, by stages -/
def sA (m : Nat) : Nat → Nat → Nat → Bool := adC (adI (adI (adI (adI (adI (adI (fun _ _ _ => false) 12 m 0) 12 m 1) 12 m 2) 12 m 3) 12 m 4) 12 m 5) 13 m 16
def sB (m : Nat) : Nat → Nat → Nat → Nat → Bool
  | 0 => sA m
  | e + 1 => adE (sB m e) (4 * m + e)
def sC (m : Nat) : Nat → Nat → Nat → Bool := adC (adC (adC (adI (adC (adI (sB m 4) 12 m 8) 15 m 32) 12 m 10) 16 m 64) 17 (2 * m) 16) 17 (2 * m + 1) 16
theorem own_A {m : Nat} : Own m (sA m) := by
  have h : m / wd 12 = m := Nat.div_one m
  exact own_C (own_I (own_I (own_I (own_I (own_I (own_I own_0 (by decide) h) (by decide) h) (by decide) h) (by decide) h) (by decide) h) (by decide) h) (by decide) h
theorem own_B {m : Nat} : ∀ e, e ≤ 4 → Own m (sB m e)
  | 0, _ => own_A
  | e + 1, h => own_E (own_B e (by omega)) (by omega)
theorem own_S {m : Nat} : Own m (sC m) := by
  have h : m / wd 12 = m := Nat.div_one m
  exact own_C (own_C (own_C (own_I (own_C (own_I (own_B 4 (by decide)) (by decide) h) (by decide) h) (by decide) h) (by decide) h) (by decide) (show 2 * m / 2 = m by omega)) (by decide) (show (2 * m + 1) / 2 = m by omega)
theorem cp_machine {μ : Mem} {m i : Nat} (hne : i ≠ m) (hz : ∀ e, e < 4 → μ.1 18 (4 * i + e) 10 = 0 ∨ μ.1 18 (4 * i + e) 10 = 1) (fu : Nat) :
    fX3_copyFrom (fu + 5) m i μ = some ((), cpS (tau i) (sC m) μ) := by
  have t12 : ∀ {a : Nat}, wd a = 1 → tau i a m = i := fun {a} h => by unfold tau; rw [h]; omega
  have o12 : ∀ {S : Nat → Nat → Nat → Bool} {a : Nat}, wd a = 1 → Own m S → Cl S a i := fun h hS => cl_own hS (by rw [h]; omega)
  unfold fX3_copyFrom
  rw [jn_eq]
  have h := Nat.div_one m
  have o0 : Own m (fun _ _ _ => false) := own_0
  have o1 := own_I (κ := 12) (k := 0) o0 (by decide) h
  have o2 := own_I (κ := 12) (k := 1) o1 (by decide) h
  have o3 := own_I (κ := 12) (k := 2) o2 (by decide) h
  have o4 := own_I (κ := 12) (k := 3) o3 (by decide) h
  have o5 := own_I (κ := 12) (k := 4) o4 (by decide) h
  have o6 := own_I (κ := 12) (k := 5) o5 (by decide) h
  have w12 : wd 12 = 1 := rfl
  have e0 : μ = cpS (tau i) (fun _ _ _ => false) μ := rfl
  rw [nm_eq]
  conv => lhs; rw [e0]
  rw [cp_wI (o12 w12 o0 0) (t12 w12), nm_eq, cp_wI (o12 w12 o1 1) (t12 w12), nm_eq, cp_wI (o12 w12 o2 2) (t12 w12), nm_eq, cp_wI (o12 w12 o3 3) (t12 w12), nm_eq, cp_wI (o12 w12 o4 4) (t12 w12), nm_eq, cp_wI (o12 w12 o5 5) (t12 w12),
    show (16 : Int32) = nI 16 from rfl, ckC_ok (by decide), nm_eq, cp_wC (by decide) (o12 rfl o6) (t12 rfl)]
  refine lp_ind (P := fun n (f : Mem → Int32 → Option (Unit × Mem)) => ∀ e : Nat, e + n = 4 → f (cpS (tau i) (sB m e) μ) (nI e) = some ((), cpS (tau i) (sC m) μ)) (fun f e he => ?_) (fun n f ih e he => ?_) 4 fu 0 rfl
  · have he4 : e = 4 := by omega
    subst he4
    have p1 := own_B (m := m) 4 (by decide)
    have p2 := own_I (κ := 12) (k := 8) p1 (by decide) h
    have p3 := own_C (κ := 15) (k := 32) p2 (by decide) h
    have p4 := own_I (κ := 12) (k := 10) p3 (by decide) h
    have p5 := own_C (κ := 16) (k := 64) p4 (by decide) h
    have p6 := own_C (κ := 17) (k := 16) p5 (by decide) (show 2 * m / 2 = m by omega)
    rw [if_pos (by decide), nm_eq, cp_wI (o12 w12 p1 8) (t12 w12), show (32 : Int32) = nI 32 from rfl, ckC_ok (by decide), nm_eq, cp_wC (by decide) (o12 rfl p2) (t12 rfl), nm_eq, cp_wI (o12 w12 p3 10) (t12 w12),
      show (64 : Int32) = nI 64 from rfl, ckC_ok (by decide), nm_eq, cp_wC (by decide) (o12 rfl p4) (t12 rfl),
      ckC_ok (by decide), nm_eq, cp_wC (κ := 17) (n := 2 * m) (n1 := 2 * i) (len := 16) (by decide) (cl_own p5 (show 2 * i / 2 ≠ m by omega)) (show 2 * i + 2 * m % 2 = 2 * i by omega),
      ckC_ok (by decide), nm_eq, cp_wC (κ := 17) (n := 2 * m + 1) (n1 := 2 * i + 1) (len := 16) (by decide) (cl_own p6 (show (2 * i + 1) / 2 ≠ m by omega)) (show 2 * i + (2 * m + 1) % 2 = 2 * i + 1 by omega)]
    rfl
  · have he4 : e < 4 := by omega
    have p1 := own_B (m := m) e (by omega)
    rw [if_neg (show ¬ (4 : Int32) ≤ nI e from nI_ge (b := 4) (by omega) (by decide)), ckI_nI he4 (by decide), ckI_nI he4 (by decide), nI_clamp (by omega),
      cp_engine (n := 4 * m + e) (n1 := 4 * i + e) (by omega) (cl_own p1 (show (4 * i + e) / 4 ≠ m by omega)) (cl_own p1 (show (4 * i + e) / 4 ≠ m by omega))
        (cl_own p1 (show (2 * (4 * i + e)) / 8 ≠ m by omega)) (cl_own p1 (show (2 * (4 * i + e) + 1) / 8 ≠ m by omega)) (cl_own p1 (show (2 * (4 * i + e)) / 8 ≠ m by omega)) (cl_own p1 (show (2 * (4 * i + e) + 1) / 8 ≠ m by omega))
        (show 4 * i + (4 * m + e) % 4 = _ by omega) (show 4 * i + (4 * m + e) % 4 = _ by omega) (show 8 * i + (2 * (4 * m + e)) % 8 = _ by omega) (show 8 * i + (2 * (4 * m + e) + 1) % 8 = _ by omega) (show 8 * i + (2 * (4 * m + e)) % 8 = _ by omega) (show 8 * i + (2 * (4 * m + e) + 1) % 8 = _ by omega) (hz e he4),
      bnd_some, nm_eq, nI_1]
    exact ih (e + 1) (by omega)
