/-! B: THE PURE TEXTS. Small laws -/
theorem lit32 (n : Nat) : (OfNat.ofNat n : Int32) = nI n := rfl
theorem ckI_nI {α : Type} {j n : Nat} {o : Option α} (h : j < n) (hn : n < 2 ^ 31) : ckI (nI j) n o = o := if_pos (nI_in h hn)
theorem bnd_some {α β : Type} {r : β} {μ : Mem} {k : β → Mem → Option α} : bnd (some (r, μ)) k = k r μ := rfl
theorem bndX_inr {β γ : Type} {r : β} {μ : Mem} {k : β → Mem → Option (RX γ)} : bndX (some (.inr r, μ)) k = k r μ := rfl
theorem bndX_inl {β γ : Type} {e : Nat} {μ : Mem} {k : β → Mem → Option (RX γ)} : bndX (some (.inl e, μ)) k = some (.inl e, μ) := rfl
theorem nm_eq {α β : Type} {e : α} {k : α → β} : nm e k = k e := rfl
theorem jn_eq {α B : Type} {b : B} {k : B → Option α} : jn b k = k b := rfl
theorem lp_succ {B : Type} {z : B} {n : Nat} {b : B → B} : lp z (n + 1) b = b (lp z n b) := rfl
theorem ckB_ok {α : Type} {i n : Nat} {o : Option α} (h : i < n) : ckB i n o = o := if_pos h
theorem ckZ_ok {α : Type} {v : Int32} {o : Option α} (h : v = 0 ∨ v = 1) : ckZ v o = o := if_pos h
theorem ckZ_b {α : Type} {c : Prop} [Decidable c] {o : Option α} : ckZ (if c then (1 : Int32) else 0) o = o := if_pos (by by_cases h : c <;> simp [h])
theorem ckD_ok {α : Type} {y : Int32} {o : Option α} (h : ¬ y = 0) : ckD y o = o := if_pos h
theorem wI_same {μ : Mem} {κ n k : Nat} {v : Int32} : (wI μ κ n k v).1 κ n k = v := if_pos ⟨rfl, rfl, rfl⟩
theorem wI_at {μ : Mem} {κ n k a b c : Nat} {v : Int32} : (wI μ κ n k v).1 a b c = if a = κ ∧ b = n ∧ c = k then v else μ.1 a b c := rfl
theorem wI_2 {μ : Mem} {κ n k : Nat} {v : Int32} : (wI μ κ n k v).2 = μ.2 := rfl
theorem wR_1 {μ : Mem} {κ n k v : Nat} : (wR μ κ n k v).1 = μ.1 := rfl
theorem wJ_1 {μ : Mem} {κ n k : Nat} {v : Int64} : (wJ μ κ n k v).1 = μ.1 := rfl
/-! the reference: its array of numbers -/
/-- a place of now -/
abbrev tN (μ : Mem) (k : Nat) : Int32 := μ.1 27 0 k
theorem r_of {μ : Mem} {e f : Nat} (h : 560 + 35 * e + f < 700) : fX13_of 0 (nI e) (nI f) μ = some (tN μ (560 + 35 * e + f), μ) := by
  simp only [fX13_of, lit32, pk_mul, nI_add]
  rw [ckI_nI (by simpa using h) (by decide), nI_clamp (by omega)]
theorem r_set {μ : Mem} {e f : Nat} {v : Int32} (h : 560 + 35 * e + f < 700) : fX13_set 0 (nI e) (nI f) v μ = some ((), wI μ 27 0 (560 + 35 * e + f) v) := by
  simp only [fX13_set, lit32, pk_mul, nI_add]
  rw [ckI_nI (by simpa using h) (by decide), nI_clamp (by omega)]
  rfl
theorem r_add {μ : Mem} {e f : Nat} {v : Int32} (h : 560 + 35 * e + f < 700) : fX13_add 0 (nI e) (nI f) v μ = some ((), wI μ 27 0 (560 + 35 * e + f) (tN μ (560 + 35 * e + f) + v)) := by
  simp only [fX13_add, lit32, pk_mul, nI_add, nm_eq]
  rw [ckI_nI (by simpa using h) (by decide), ckI_nI (by simpa using h) (by decide), nI_clamp (by omega)]
theorem r_setting {μ : Mem} {e f : Nat} (h : 476 + 21 * e + f < 700) : fX13_setting 0 (nI e) (nI f) μ = some (tN μ (476 + 21 * e + f), μ) := by
  simp only [fX13_setting, lit32, pk_mul, nI_add]
  rw [ckI_nI (by simpa using h) (by decide), nI_clamp (by omega)]
theorem r_code {μ : Mem} {a f : Nat} (h : 284 + 6 * a + f < 700) : fX13_code 0 (nI a) (nI f) μ = some (tN μ (284 + 6 * a + f), μ) := by
  simp only [fX13_code, lit32, pk_mul, nI_add]
  rw [ckI_nI (by simpa using h) (by decide), nI_clamp (by omega)]
theorem r_ofPin {μ : Mem} {p f : Nat} (h : 4 + 6 * p + f < 700) : fX13_ofPin 0 (nI p) (nI f) μ = some (tN μ (4 + 6 * p + f), μ) := by
  simp only [fX13_ofPin, lit32, pk_mul, nI_add]
  rw [ckI_nI (by simpa using h) (by decide), nI_clamp (by omega)]
theorem r_putPin {μ : Mem} {p f : Nat} {v : Int32} (h : 4 + 6 * p + f < 700) : fX13_putPin 0 (nI p) (nI f) v μ = some ((), wI μ 27 0 (4 + 6 * p + f) v) := by
  simp only [fX13_putPin, lit32, pk_mul, nI_add]
  rw [ckI_nI (by simpa using h) (by decide), nI_clamp (by omega)]
  rfl
theorem r_inRange {μ : Mem} {v a b : Int32} : fX13_inRange v a b μ = some (if a ≤ v ∧ v ≤ b then 1 else 0, μ) := by
  unfold fX13_inRange
  simp only [jn_eq]
  by_cases h1 : v < a
  · rw [if_pos h1, if_neg (fun q => absurd h1 (by simpa using q.1))]; exact ckZ_ok (Or.inl rfl)
  · rw [if_neg h1]
    by_cases h2 : b < v
    · rw [if_pos h2, if_neg (fun q => absurd h2 (by simpa using q.2))]; exact ckZ_ok (Or.inl rfl)
    · rw [if_neg h2, if_pos ⟨by simpa using h1, by simpa using h2⟩]; exact ckZ_ok (Or.inr rfl)
