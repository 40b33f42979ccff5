/-! THE CYCLE. A tick of engine e on the machine i, class and model side by side. WC, WM: the cells that the two may write in it -/
def WC (i e κ n k : Nat) : Prop := (κ = 18 ∧ n = 4 * i + e ∧ k ≠ 0 ∧ k ≠ 10) ∨ (κ = 21 ∧ n = 4 * i + e ∧ k ≠ 0) ∨ ((κ = 19 ∨ κ = 20) ∧ (n = 2 * (4 * i + e) ∨ n = 2 * (4 * i + e) + 1)) ∨ (κ = 12 ∧ n = i ∧ (k = 1 ∨ k = 2)) ∨ (κ = 13 ∧ n = i) ∨ (κ = 22 ∧ n = 0 ∧ (k = 4 ∨ k = 5 ∨ k = 6))
def WM (e κ n k : Nat) : Prop := (κ = 27 ∧ n = 0 ∧ ((560 + 35 * e ≤ k ∧ k < 595 + 35 * e) ∨ (108 ≤ k ∧ k < 124))) ∨ (κ = 26 ∧ n = 0 ∧ (k = 16 ∨ k = 17 ∨ k = 19)) ∨ (κ = 28 ∧ (n = 2 ∨ n = 3 ∨ n = 4 ∨ n = 5) ∧ k = e)
/-- the bits L, where the group (base b, size s) gets the value v -/
def wrB (b s : Nat) (v : Int32) (L : Nat → Bool) (q : Nat) : Bool := if grpM b s q then bt v ((q + (16 - b)) % 16) else L q
/-- what the model has laid aside for the pins of engine e, on the bits L (latches) and D (directions) -/
def apW (ν : Mem) (e : Nat) (L D : Nat → Bool) (q : Nat) : Bool × Bool :=
  if ν.1 28 2 e = -1 then (L q, D q) else if ν.1 28 2 e = 7 then (L q, wrB (ν.1 28 3 e).toNatClampNeg (ν.1 28 4 e).toNatClampNeg (ν.1 28 5 e) D q) else (wrB (ν.1 28 3 e).toNatClampNeg (ν.1 28 4 e).toNatClampNeg (ν.1 28 5 e) L q, D q)
/-- what is laid aside is sound -/
def wok (ν : Mem) (e : Nat) : Prop := ν.1 28 2 e = -1 ∨ ((ν.1 28 2 e = 0 ∨ ν.1 28 2 e = 7) ∧ ∃ b s : Nat, b < 16 ∧ s ≤ 16 ∧ ν.1 28 3 e = nI b ∧ ν.1 28 4 e = nI s)
/-- the pins in a tick: not written yet (w false), or as the model has laid them aside -/
def RPn (i e : Nat) (μ0 μ ν : Mem) (w : Bool) : Prop :=
  (w = false → μ.1 12 i 1 = μ0.1 12 i 1 ∧ μ.1 12 i 2 = μ0.1 12 i 2 ∧ ν.1 28 2 e = -1) ∧ wok ν e ∧ ∀ q, q < 16 → (bt (μ.1 12 i 1) q, bt (μ.1 12 i 2) q) = apW ν e (bt (μ0.1 12 i 1)) (bt (μ0.1 12 i 2)) q
def RT (i e cnt : Nat) (nx : Int32) (μ0 ν0 μ ν : Mem) (w : Bool) : Prop :=
  (μ.2 = μ0.2 ∧ ν.2 = ν0.2) ∧ (∀ κ n k, ¬ WC i e κ n k → μ.1 κ n k = μ0.1 κ n k) ∧ (∀ κ n k, ¬ WM e κ n k → ν.1 κ n k = ν0.1 κ n k) ∧
  relE μ (4 * i + e) (tN ν0 (476 + 21 * e + 19)) (tN ν0 (476 + 21 * e + 20)) (fun k => tN ν (560 + 35 * e + k)) ∧
  (∀ a, a < 16 → tN ν (108 + a) = μ.1 13 i a) ∧ (ν.1 26 0 16 = μ.1 22 0 4 ∧ ν.1 26 0 17 = μ.1 22 0 5) ∧
  ((ν.1 26 0 19 = -1 ∧ μ.1 22 0 6 = nx) ∨ ∃ a : Nat, a < cnt ∧ ν.1 26 0 19 = nI a ∧ μ.1 22 0 6 = nI a) ∧
  RPn i e μ0 μ ν w
/-- a number of an engine is written, in both -/
theorem relE_put {μ μ' : Mem} {j k : Nat} {v a b : Int32} {F F' : Nat → Int32} (hk : k < 10) (h18 : ∀ c, μ'.1 18 j c = if c = k then v else μ.1 18 j c) (h21 : ∀ c, μ'.1 21 j c = μ.1 21 j c) (h19 : ∀ t c, t < 2 → μ'.1 19 (2 * j + t) c = μ.1 19 (2 * j + t) c) (h20 : ∀ t c, t < 2 → μ'.1 20 (2 * j + t) c = μ.1 20 (2 * j + t) c)
    (hF : ∀ c, c < 35 → F' c = if c = k + 1 then v else F c) (c5 : k = 5 ∨ k = 6 → ∃ n : Nat, n ≤ 32 ∧ v = nI n) (c7 : k = 7 → ∃ n : Nat, n ≤ 31 ∧ v = nI n) (c8 : k = 8 → ∃ n : Nat, n ≤ 5 ∧ v = nI n) (q : relE μ j a b F) : relE μ' j a b F' := by
  obtain ⟨a1, a2, a3, a4, a5, a6, a7, a8, a9, a10⟩ := q
  have f : ∀ c, c < 35 → c ≠ k + 1 → F' c = F c := fun c h1 h2 => (hF c h1).trans (if_neg h2)
  have fk : F' (k + 1) = v := (hF _ (by omega)).trans (if_pos rfl)
  refine ⟨?_, ?_, fun c hc => ?_, fun c hc => ?_, ?_, ?_, ?_, ?_, ?_, ?_⟩
  · rw [f 0 (by decide) (by omega), h18, if_neg (by omega)]; exact a1
  · rw [f 0 (by decide) (by omega)]; exact a2
  · rw [h18]
    by_cases h : c = k
    · subst h; rw [if_pos rfl]; exact fk
    · rw [if_neg h, f _ (by omega) (by omega)]; exact a3 c hc
  · rw [h21, f _ (by omega) (by omega)]; exact a4 c hc
  · by_cases h : k = 5
    · subst h; rw [fk]; exact c5 (Or.inl rfl)
    · rw [f 6 (by decide) (by omega)]; exact a5
  · by_cases h : k = 6
    · subst h; rw [fk]; exact c5 (Or.inr rfl)
    · rw [f 7 (by decide) (by omega)]; exact a6
  · by_cases h : k = 7
    · subst h; rw [fk]; exact c7 rfl
    · rw [f 8 (by decide) (by omega)]; exact a7
  · by_cases h : k = 8
    · subst h; rw [fk]; exact c8 rfl
    · rw [f 9 (by decide) (by omega)]; exact a8
  · exact relQ_T (f 11 (by decide) (by omega)) rfl (fun c hc => f _ (by omega) (by omega)) (relQ_same (fun c _ => h19 0 c (by decide)) (fun c _ => h20 0 c (by decide)) a9)
  · exact relQ_T (f 12 (by decide) (by omega)) rfl (fun c hc => f _ (by omega) (by omega)) (relQ_same (fun c _ => h19 1 c (by decide)) (fun c _ => h20 1 c (by decide)) a10)
theorem relE_cnt {μ μ' : Mem} {j k : Nat} {v a b : Int32} {F F' : Nat → Int32} (hk : k < 6) (h18 : ∀ c, μ'.1 18 j c = μ.1 18 j c) (h21 : ∀ c, μ'.1 21 j c = if c = k then v else μ.1 21 j c) (h19 : ∀ t c, t < 2 → μ'.1 19 (2 * j + t) c = μ.1 19 (2 * j + t) c) (h20 : ∀ t c, t < 2 → μ'.1 20 (2 * j + t) c = μ.1 20 (2 * j + t) c)
    (hF : ∀ c, c < 35 → F' c = if c = 29 + k then v else F c) (q : relE μ j a b F) : relE μ' j a b F' := by
  obtain ⟨a1, a2, a3, a4, a5, a6, a7, a8, a9, a10⟩ := q
  have f : ∀ c, c < 35 → c ≠ 29 + k → F' c = F c := fun c h1 h2 => (hF c h1).trans (if_neg h2)
  refine ⟨?_, ?_, fun c hc => ?_, fun c hc => ?_, ?_, ?_, ?_, ?_, ?_, ?_⟩
  · rw [f 0 (by decide) (by omega), h18]; exact a1
  · rw [f 0 (by decide) (by omega)]; exact a2
  · rw [h18, f _ (by omega) (by omega)]; exact a3 c hc
  · rw [h21, hF _ (by omega)]
    by_cases h : c = k
    · rw [if_pos h, if_pos (by omega)]
    · rw [if_neg h, if_neg (by omega)]; exact a4 c hc
  · rw [f 6 (by decide) (by omega)]; exact a5
  · rw [f 7 (by decide) (by omega)]; exact a6
  · rw [f 8 (by decide) (by omega)]; exact a7
  · rw [f 9 (by decide) (by omega)]; exact a8
  · exact relQ_T (f 11 (by decide) (by omega)) rfl (fun c hc => f _ (by omega) (by omega)) (relQ_same (fun c _ => h19 0 c (by decide)) (fun c _ => h20 0 c (by decide)) a9)
  · exact relQ_T (f 12 (by decide) (by omega)) rfl (fun c hc => f _ (by omega) (by omega)) (relQ_same (fun c _ => h19 1 c (by decide)) (fun c _ => h20 1 c (by decide)) a10)
/-- a queue of it changes, t: 0 the one in, 1 the one out -/
theorem relE_que {μ μ' : Mem} {j t : Nat} {a b : Int32} {F F' : Nat → Int32} (ht : t < 2) (h18 : ∀ c, μ'.1 18 j c = μ.1 18 j c) (h21 : ∀ c, μ'.1 21 j c = μ.1 21 j c) (h19 : ∀ c, μ'.1 19 (2 * j + (1 - t)) c = μ.1 19 (2 * j + (1 - t)) c) (h20 : ∀ c, μ'.1 20 (2 * j + (1 - t)) c = μ.1 20 (2 * j + (1 - t)) c)
    (hF : ∀ c, c < 35 → c ≠ 11 + t → ¬ (13 + 8 * t ≤ c ∧ c < 21 + 8 * t) → F' c = F c) (hq : relQ μ' (2 * j + t) (F' (11 + t)) (if t = 0 then a else b) (fun k => F' (13 + 8 * t + k))) (q : relE μ j a b F) : relE μ' j a b F' := by
  obtain ⟨a1, a2, a3, a4, a5, a6, a7, a8, a9, a10⟩ := q
  have f : ∀ c, c < 35 → c < 11 ∨ 29 ≤ c → F' c = F c := fun c h1 h2 => hF c h1 (by omega) (by omega)
  refine ⟨?_, ?_, fun c hc => ?_, fun c hc => ?_, ?_, ?_, ?_, ?_, ?_, ?_⟩
  · rw [f 0 (by decide) (by omega), h18]; exact a1
  · rw [f 0 (by decide) (by omega)]; exact a2
  · rw [h18, f _ (by omega) (by omega)]; exact a3 c hc
  · rw [h21, f _ (by omega) (by omega)]; exact a4 c hc
  · rw [f 6 (by decide) (by omega)]; exact a5
  · rw [f 7 (by decide) (by omega)]; exact a6
  · rw [f 8 (by decide) (by omega)]; exact a7
  · rw [f 9 (by decide) (by omega)]; exact a8
  · have : t = 0 ∨ t = 1 := by omega
    rcases this with h | h <;> subst h
    · exact hq
    · exact relQ_T (hF 11 (by decide) (by decide) (by decide)) rfl (fun c hc => hF _ (by omega) (by omega) (by omega)) (relQ_same (fun c _ => h19 c) (fun c _ => h20 c) a9)
  · have : t = 0 ∨ t = 1 := by omega
    rcases this with h | h <;> subst h
    · exact relQ_T (hF 12 (by decide) (by decide) (by decide)) rfl (fun c hc => hF _ (by omega) (by omega) (by omega)) (relQ_same (fun c _ => h19 c) (fun c _ => h20 c) a10)
    · exact hq
theorem relE_cg {μ μ' : Mem} {j : Nat} {a b : Int32} {F : Nat → Int32} (h18 : ∀ c, μ'.1 18 j c = μ.1 18 j c) (h21 : ∀ c, μ'.1 21 j c = μ.1 21 j c) (h19 : ∀ t c, t < 2 → μ'.1 19 (2 * j + t) c = μ.1 19 (2 * j + t) c) (h20 : ∀ t c, t < 2 → μ'.1 20 (2 * j + t) c = μ.1 20 (2 * j + t) c) (q : relE μ j a b F) : relE μ' j a b F := by
  obtain ⟨a1, a2, a3, a4, a5, a6, a7, a8, a9, a10⟩ := q
  exact ⟨a1.trans (h18 _).symm, a2, fun k hk => (a3 k hk).trans (h18 _).symm, fun k hk => (a4 k hk).trans (h21 _).symm, a5, a6, a7, a8, relQ_same (fun c _ => h19 0 c (by decide)) (fun c _ => h20 0 c (by decide)) a9, relQ_same (fun c _ => h19 1 c (by decide)) (fun c _ => h20 1 c (by decide)) a10⟩
