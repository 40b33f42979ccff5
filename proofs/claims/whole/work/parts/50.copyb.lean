/-- cells S that the copying may read from: none of those already written -/
def Cl (S : Nat → Nat → Nat → Bool) (a b : Nat) : Prop := ∀ c, S a b c = false
theorem cl_I {S : Nat → Nat → Nat → Bool} {κ n k a b : Nat} (h : Cl S a b) (hn : ¬ (a = κ ∧ b = n)) : Cl (adI S κ n k) a b := fun c => by
  unfold adI
  rw [h c]
  by_cases h1 : a = κ <;> by_cases h2 : b = n <;> simp_all
theorem cl_C {S : Nat → Nat → Nat → Bool} {κ n len a b : Nat} (h : Cl S a b) (hn : ¬ (a = κ ∧ b = n)) : Cl (adC S κ n len) a b := fun c => by
  unfold adC
  rw [h c]
  by_cases h1 : a = κ <;> by_cases h2 : b = n <;> simp_all
def adQ (S : Nat → Nat → Nat → Bool) (n : Nat) : Nat → Nat → Nat → Bool := adC (adI (adI (adI S 19 n 0) 19 n 1) 19 n 2) 20 n 8
theorem cl_Q {S : Nat → Nat → Nat → Bool} {n a b : Nat} (h : Cl S a b) (hn : b ≠ n) : Cl (adQ S n) a b := cl_C (cl_I (cl_I (cl_I h (fun q => hn q.2)) (fun q => hn q.2)) (fun q => hn q.2)) (fun q => hn q.2)
theorem cl_Q2 {S : Nat → Nat → Nat → Bool} {n a b : Nat} (h : Cl S a b) (h1 : a ≠ 19) (h2 : a ≠ 20) : Cl (adQ S n) a b := cl_C (cl_I (cl_I (cl_I h (fun q => h1 q.1)) (fun q => h1 q.1)) (fun q => h1 q.1)) (fun q => h2 q.1)
theorem cp_queue {τ : Nat → Nat → Nat} {S : Nat → Nat → Nat → Bool} {μ : Mem} {n n1 : Nat} (hne : n1 ≠ n) (h9 : Cl S 19 n1) (h0 : Cl S 20 n1) (t9 : τ 19 n = n1) (t0 : τ 20 n = n1) :
    fX7_copyFrom n n1 (cpS τ S μ) = some ((), cpS τ (adQ S n) μ) := by
  unfold fX7_copyFrom
  have d : ∀ a : Nat, ¬ (a = a ∧ n1 = n) := fun _ q => hne q.2
  have c1 := cl_I (k := 0) h9 (d 19)
  have c2 := cl_I (k := 1) c1 (d 19)
  have c3 : Cl (adI (adI (adI S 19 n 0) 19 n 1) 19 n 2) 20 n1 := cl_I (cl_I (cl_I h0 (fun q => hne q.2)) (fun q => hne q.2)) (fun q => hne q.2)
  rw [nm_eq, cp_wI (h9 0) t9, nm_eq, cp_wI (c1 1) t9, nm_eq, cp_wI (c2 2) t9, show (8 : Int32) = nI 8 from rfl, ckC_ok (by decide), nm_eq, cp_wC (by decide) c3 t0]
  rfl
/-- the cells of an engine -/
def adN (S : Nat → Nat → Nat → Bool) (n : Nat) : Nat → Nat → Nat → Bool := (adI (adI (adI (adI (adI (adI (adI (adI (adI (adI (adI S 18 n 0) 18 n 1) 18 n 2) 18 n 3) 18 n 4) 18 n 5) 18 n 6) 18 n 7) 18 n 8) 18 n 9) 18 n 10)
def adE (S : Nat → Nat → Nat → Bool) (n : Nat) : Nat → Nat → Nat → Bool := adC (adQ (adQ (adN S n) (2 * n)) (2 * n + 1)) 21 n 6
theorem cl_N {S : Nat → Nat → Nat → Bool} {n a b : Nat} (h : Cl S a b) (hn : ¬ (a = 18 ∧ b = n)) : Cl (adN S n) a b := cl_I (cl_I (cl_I (cl_I (cl_I (cl_I (cl_I (cl_I (cl_I (cl_I (cl_I h hn) hn) hn) hn) hn) hn) hn) hn) hn) hn) hn
theorem cp_engine {τ : Nat → Nat → Nat} {S : Nat → Nat → Nat → Bool} {μ : Mem} {n n1 : Nat} (hne : n1 ≠ n) (h8 : Cl S 18 n1) (h21 : Cl S 21 n1)
    (h9 : Cl S 19 (2 * n1)) (h9' : Cl S 19 (2 * n1 + 1)) (h0 : Cl S 20 (2 * n1)) (h0' : Cl S 20 (2 * n1 + 1))
    (t8 : τ 18 n = n1) (t21 : τ 21 n = n1) (t9 : τ 19 (2 * n) = 2 * n1) (t9' : τ 19 (2 * n + 1) = 2 * n1 + 1) (t0 : τ 20 (2 * n) = 2 * n1) (t0' : τ 20 (2 * n + 1) = 2 * n1 + 1)
    (hz : μ.1 18 n1 10 = 0 ∨ μ.1 18 n1 10 = 1) :
    fX1_copyFrom n n1 (cpS τ S μ) = some ((), cpS τ (adE S n) μ) := by
  unfold fX1_copyFrom
  have d : ¬ (18 = 18 ∧ n1 = n) := fun q => hne q.2
  have c1 := cl_I (k := 0) h8 d
  have c2 := cl_I (k := 1) c1 d
  have c3 := cl_I (k := 2) c2 d
  have c4 := cl_I (k := 3) c3 d
  have c5 := cl_I (k := 4) c4 d
  have c6 := cl_I (k := 5) c5 d
  have c7 := cl_I (k := 6) c6 d
  have c8 := cl_I (k := 7) c7 d
  have c9 := cl_I (k := 8) c8 d
  have c10 := cl_I (k := 9) c9 d
  rw [nm_eq, cp_wI (h8 0) t8, nm_eq, cp_wI (c1 1) t8, nm_eq, cp_wI (c2 2) t8, nm_eq, cp_wI (c3 3) t8, nm_eq, cp_wI (c4 4) t8, nm_eq, cp_wI (c5 5) t8, nm_eq, cp_wI (c6 6) t8, nm_eq, cp_wI (c7 7) t8, nm_eq, cp_wI (c8 8) t8, nm_eq, cp_wI (c9 9) t8]
  have ez : (cpS τ (adI (adI (adI (adI (adI (adI (adI (adI (adI (adI S 18 n 0) 18 n 1) 18 n 2) 18 n 3) 18 n 4) 18 n 5) 18 n 6) 18 n 7) 18 n 8) 18 n 9) μ).1 18 n1 10 = μ.1 18 n1 10 := by
    show (if _ then _ else _) = _
    rw [c10 10]; rfl
  rw [ckZ_ok (by rw [ez]; exact hz), nm_eq, cp_wI (c10 10) t8]
  show bnd (fX7_copyFrom (2 * n) (2 * n1) (cpS τ (adN S n) μ)) _ = _
  have e8 : ∀ {a b : Nat}, a ≠ 18 → Cl S a b → Cl (adN S n) a b := fun h hc => cl_N hc (fun q => h q.1)
  rw [cp_queue (by omega) (e8 (by decide) h9) (e8 (by decide) h0) t9 t0, bnd_some]
  rw [cp_queue (by omega) (cl_Q (e8 (by decide) h9') (by omega)) (cl_Q (e8 (by decide) h0') (by omega)) t9' t0', bnd_some]
  rw [show (6 : Int32) = nI 6 from rfl, ckC_ok (by decide), nm_eq, cp_wC (by decide) (cl_Q2 (cl_Q2 (e8 (by decide) h21) (by decide) (by decide)) (by decide) (by decide)) t21]
  rfl
