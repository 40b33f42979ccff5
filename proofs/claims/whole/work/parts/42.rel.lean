/-! WHAT A MACHINE OF THE CLASS (index i, under program p) AND A ROW OF THE MODEL (700 numbers T) HAVE TO DO WITH EACH OTHER -/
/-- the mask of a group of pins: base b, size s -/
def grpM (b s q : Nat) : Bool := (List.range s).any (fun j => decide ((b + j) % 16 = q))
/-- an engine's queue: its size, its words from the head on -/
def relQ (μ : Mem) (j : Nat) (cnt room : Int32) (w : Nat → Int32) : Prop :=
  ∃ s h r : Nat, s ≤ r ∧ r ≤ 8 ∧ h < 8 ∧ μ.1 19 j 0 = nI s ∧ μ.1 19 j 1 = nI r ∧ μ.1 19 j 2 = nI h ∧ cnt = nI s ∧ room = nI r ∧ ∀ k, k < s → w k = μ.1 20 j ((h + k) % 8)
/-- the engine at j, and the model's 35 numbers of it -/
def relE (μ : Mem) (j : Nat) (rin rout : Int32) (F : Nat → Int32) : Prop :=
  F 0 = μ.1 18 j 10 ∧ (F 0 = 0 ∨ F 0 = 1) ∧ (∀ k, k < 10 → F (k + 1) = μ.1 18 j k) ∧ (∀ k, k < 6 → F (29 + k) = μ.1 21 j k) ∧
  (∃ n : Nat, n ≤ 32 ∧ F 6 = nI n) ∧ (∃ n : Nat, n ≤ 32 ∧ F 7 = nI n) ∧ (∃ n : Nat, n ≤ 31 ∧ F 8 = nI n) ∧ (∃ n : Nat, n ≤ 5 ∧ F 9 = nI n) ∧
  relQ μ (2 * j) (F 11) rin (fun k => F (13 + k)) ∧ relQ μ (2 * j + 1) (F 12) rout (fun k => F (21 + k))
/-- the setup at j, and the model's 21 numbers of it -/
def relS (μ : Mem) (j cnt : Nat) (S : Nat → Int32) : Prop :=
  (μ.1 8 j 0 = 0 ∧ S 0 = 0) ∨
  (μ.1 8 j 0 = 1 ∧ S 0 = 1 ∧
  (∃ n : Nat, n < cnt ∧ S 1 = nI n ∧ μ.1 8 j 1 = nI n) ∧ (∃ n : Nat, 256 ≤ n ∧ n < 65536 ∧ S 2 = nI n ∧ μ.1 8 j 4 = nI n) ∧
  ((S 4 = -1 ∧ μ.1 8 j 3 = -1) ∨ ∃ n : Nat, n < cnt ∧ S 4 = nI n ∧ μ.1 8 j 3 = nI n) ∧ (∃ n : Nat, n < cnt ∧ S 3 = nI n ∧ μ.1 8 j 2 = nI n) ∧
  (∀ g, g < 3 → ∃ b s : Nat, b < 16 ∧ s ≤ 16 ∧ S (5 + 2 * g) = nI b ∧ S (6 + 2 * g) = nI s ∧ μ.1 8 j (5 + 2 * g) = nI b ∧ ∀ q, q < 32 → bt (μ.1 8 j (6 + 2 * g)) q = (decide (q < 16) && grpM b s q)) ∧
  (∃ n : Nat, n < 16 ∧ S 11 = nI n ∧ μ.1 8 j 11 = nI n) ∧ (∃ n : Nat, n < 16 ∧ S 12 = nI n ∧ μ.1 8 j 12 = nI n) ∧
  (S 13 = μ.1 8 j 13 ∧ (S 13 = 0 ∨ S 13 = 1)) ∧ (S 14 = μ.1 8 j 14 ∧ (S 14 = 0 ∨ S 14 = 1)) ∧ (S 16 = μ.1 8 j 15 ∧ (S 16 = 0 ∨ S 16 = 1)) ∧ (S 18 = μ.1 8 j 16 ∧ (S 18 = 0 ∨ S 18 = 1)) ∧
  (∃ n : Nat, 1 ≤ n ∧ n ≤ 32 ∧ S 15 = nI n ∧ μ.1 8 j 17 = nI n) ∧ (∃ n : Nat, 1 ≤ n ∧ n ≤ 32 ∧ S 17 = nI n ∧ μ.1 8 j 18 = nI n) ∧
  (∃ n : Nat, n ≤ 8 ∧ S 19 = nI n ∧ S 20 = nI (8 - n) ∧ μ.1 8 j 19 = nI n))
/-- places by their symbols: pins x y null isr osr status dirs pc -/
def plS : List Nat := [51, 52, 53, 54, 55, 56, 59, 57, 58]
def isPl (c a : Nat) : Prop := c < 9 ∧ plS.getD c 0 = a
/-- the instruction at j, and the model's six numbers of it; the symbols are numbers of the enum's constants -/
def relI (μ : Mem) (j cnt : Nat) (P : Nat → Int32) : Prop :=
  ∃ o : Nat, o ≤ 12 ∧ P 0 = nI o ∧ μ.2.1 9 j 0 = 30 + o ∧
  ((P 4 = -1 ∧ μ.1 9 j 6 = -1) ∨ ∃ n : Nat, n < 16 ∧ P 4 = nI n ∧ μ.1 9 j 6 = nI n) ∧ (∃ n : Nat, n < 32 ∧ P 5 = nI n ∧ μ.1 9 j 7 = nI n) ∧
  (match o with
  | 0 => ∃ c b : Nat, c ≤ 7 ∧ b < cnt ∧ P 1 = nI c ∧ P 2 = nI b ∧ μ.1 9 j 1 = -1 ∧ μ.2.1 9 j 2 = (if c = 0 then 0 else 42 + c) ∧ μ.2.1 9 j 3 = 0 ∧ μ.2.1 9 j 4 = 0 ∧ μ.1 9 j 5 = nI b
  | 1 => ∃ a f n : Nat, a ≤ 1 ∧ f ≤ 1 ∧ n < (if f = 1 then 8 else 16) ∧ P 1 = nI a ∧ P 2 = nI f ∧ P 3 = nI n ∧ μ.1 9 j 1 = nI a ∧ μ.2.1 9 j 2 = (if f = 1 then 50 else 48) ∧ μ.2.1 9 j 3 = 0 ∧ μ.2.1 9 j 4 = 0 ∧ μ.1 9 j 5 = nI n
  | 2 => ∃ c s n : Nat, isPl c s ∧ c ≤ 5 ∧ 1 ≤ n ∧ n ≤ 32 ∧ P 1 = nI c ∧ P 2 = nI n ∧ μ.1 9 j 1 = -1 ∧ μ.2.1 9 j 2 = s ∧ μ.2.1 9 j 3 = 0 ∧ μ.2.1 9 j 4 = 0 ∧ μ.1 9 j 5 = nI n
  | 3 => ∃ c s n : Nat, isPl c s ∧ c ≠ 5 ∧ c ≠ 6 ∧ 1 ≤ n ∧ n ≤ 32 ∧ P 1 = nI c ∧ P 2 = nI n ∧ μ.1 9 j 1 = -1 ∧ μ.2.1 9 j 2 = s ∧ μ.2.1 9 j 3 = 0 ∧ μ.2.1 9 j 4 = 0 ∧ μ.1 9 j 5 = nI n
  | 4 => ∃ a b : Nat, a ≤ 1 ∧ b ≤ 1 ∧ P 1 = nI a ∧ P 2 = nI b ∧ μ.1 9 j 1 = -1 ∧ μ.2.1 9 j 2 = (if a = 1 then 60 else 0) ∧ μ.2.1 9 j 3 = 0 ∧ μ.2.1 9 j 4 = (if b = 1 then 62 else 0) ∧ μ.1 9 j 5 = -1
  | 5 => ∃ a b : Nat, a ≤ 1 ∧ b ≤ 1 ∧ P 1 = nI a ∧ P 2 = nI b ∧ μ.1 9 j 1 = -1 ∧ μ.2.1 9 j 2 = (if a = 1 then 61 else 0) ∧ μ.2.1 9 j 3 = 0 ∧ μ.2.1 9 j 4 = (if b = 1 then 62 else 0) ∧ μ.1 9 j 5 = -1
  | 6 => ∃ c s d c2 s2 : Nat, isPl c s ∧ c ≠ 3 ∧ c ≠ 6 ∧ c ≠ 7 ∧ d ≤ 2 ∧ isPl c2 s2 ∧ c2 ≤ 6 ∧ P 1 = nI c ∧ P 2 = nI d ∧ P 3 = nI c2 ∧ μ.1 9 j 1 = -1 ∧ μ.2.1 9 j 2 = s ∧ μ.2.1 9 j 3 = (if d = 0 then 0 else 62 + d) ∧ μ.2.1 9 j 4 = s2 ∧ μ.1 9 j 5 = -1
  | 10 => ∃ c s n : Nat, isPl c s ∧ (c = 0 ∨ c = 1 ∨ c = 2 ∨ c = 7) ∧ n < 32 ∧ P 1 = nI c ∧ P 2 = nI n ∧ μ.1 9 j 1 = -1 ∧ μ.2.1 9 j 2 = s ∧ μ.2.1 9 j 3 = 0 ∧ μ.2.1 9 j 4 = 0 ∧ μ.1 9 j 5 = nI n
  | 11 => ∃ c s b : Nat, isPl c s ∧ (c = 1 ∨ c = 2 ∨ c = 5) ∧ b < 18 ∧ P 1 = nI c ∧ P 2 = nI b ∧ μ.1 9 j 1 = -1 ∧ μ.2.1 9 j 2 = s ∧ μ.2.1 9 j 3 = 0 ∧ μ.2.1 9 j 4 = (if b < 16 then 0 else 36 + b) ∧ μ.1 9 j 5 = (if b < 16 then nI b else -1)
  | 12 => ∃ c s b : Nat, isPl c s ∧ (c = 1 ∨ c = 2 ∨ c = 4) ∧ b < 18 ∧ P 1 = nI c ∧ P 2 = nI b ∧ μ.1 9 j 1 = -1 ∧ μ.2.1 9 j 2 = s ∧ μ.2.1 9 j 3 = 0 ∧ μ.2.1 9 j 4 = (if b < 16 then 0 else 36 + b) ∧ μ.1 9 j 5 = (if b < 16 then nI b else -1)
  | _ => ∃ a : Nat, a < 8 ∧ P 1 = nI a ∧ μ.1 9 j 1 = -1 ∧ μ.2.1 9 j 2 = 0 ∧ μ.2.1 9 j 3 = 0 ∧ μ.2.1 9 j 4 = 0 ∧ μ.1 9 j 5 = nI a)
/-- the program p, and the model's numbers of it -/
def relP (μ : Mem) (p : Nat) (T : Nat → Int32) : Prop :=
  ∃ cnt : Nat, cnt ≤ 32 ∧ T 0 = nI cnt ∧ μ.1 5 p 0 = nI cnt ∧ (∀ a, a < cnt → relI μ (33 * p + a) cnt (fun k => T (284 + 6 * a + k))) ∧ ∀ e, e < 4 → relS μ (4 * p + e) cnt (fun k => T (476 + 21 * e + k))
/-- the pins: latch, direction, outside level, level before, edges, high time -/
def relPin (μ : Mem) (i q : Nat) (F : Nat → Int32) : Prop :=
  F 0 = b2 (bt (μ.1 12 i 1) q) ∧ F 1 = b2 (bt (μ.1 12 i 2) q) ∧ F 2 = b2 (bt (μ.1 12 i 3) q) ∧ F 3 = b2 (bt (μ.1 12 i 10) q) ∧ F 4 = μ.1 17 (2 * i) q ∧
  F 5 = (if bt (μ.1 12 i 10) q then μ.1 17 (2 * i + 1) q + μ.1 12 i 0 else μ.1 17 (2 * i + 1) q)
/-- the machine i, but for the program; its clock is B at the most -/
def relMb (B : Nat) (μ : Mem) (i p : Nat) (T : Nat → Int32) : Prop :=
  (∃ c : Nat, c ≤ B ∧ T 1 = nI c ∧ μ.1 12 i 0 = nI c ∧ ∀ k, k < 64 → k < c → ∀ q, q < 16 → bt (T (220 + k)) q = bt (μ.1 16 i k) q) ∧
  (T 2 = μ.1 12 i 5 ∧ (T 2 = -1 ∨ ∃ n : Nat, n < 4 ∧ T 2 = nI n)) ∧
  (∀ q, q < 16 → relPin μ i q (fun k => T (4 + 6 * q + k))) ∧
  (∀ f, f < 8 → T (100 + f) = b2 (bt (μ.1 12 i 4) f)) ∧
  (∀ a, a < 16 → T (108 + a) = μ.1 13 i a) ∧
  (∃ n : Nat, n ≤ 32 ∧ T 3 = nI n ∧ μ.1 12 i 8 = nI n ∧ ∀ k, k < n → ∃ c q l : Nat, c ≤ 1000000 ∧ q < 16 ∧ l ≤ 1 ∧ T (124 + 3 * k) = nI c ∧ T (125 + 3 * k) = nI q ∧ T (126 + 3 * k) = nI l ∧ μ.1 15 i k = nI (32 * c + 2 * q + l)) ∧
  (∀ e, e < 4 → μ.1 8 (4 * p + e) 0 = 1 → relE μ (4 * i + e) (T (476 + 21 * e + 19)) (T (476 + 21 * e + 20)) (fun k => T (560 + 35 * e + k)) ∧ ∃ a cnt : Nat, T 0 = nI cnt ∧ cnt ≤ 32 ∧ T (561 + 35 * e) = nI a ∧ (cnt = 0 ∨ a < cnt))
def relM (μ : Mem) (i p : Nat) (T : Nat → Int32) : Prop := relMb 1000000 μ i p T
/-- a row of the model's arrays -/
def rowT (μ : Mem) (a o : Nat) : Nat → Int32 := fun k => μ.1 27 a (o + k)
/-- THE WHOLE RELATION, the two objects' states between calls; p is the class's current program; μ: the class's cells, ν: the model's -/
def Rel2 (p : Nat) (μ ν : Mem) : Prop :=
  (p < 2 ∧ μ.2.1 0 0 4 = p ∧ μ.2.1 0 0 5 = 1 - p ∧ μ.2.1 22 0 0 = p ∧ μ.2.1 22 0 1 < 13 ∧ μ.2.1 10 0 1 < 2) ∧
  relP μ p (fun k => ν.1 27 0 k) ∧ relM μ 0 p (fun k => ν.1 27 0 k) ∧
  (∃ n : Nat, n ≤ 1000 ∧ μ.1 0 0 1 = nI n ∧ ν.1 26 0 21 = nI n ∧ ∀ k, k < n → ν.1 28 7 k = μ.1 1 0 k &&& 255 ∧ (μ.1 1 0 k).toInt8.toInt32 = μ.1 1 0 k) ∧
  μ.1 0 0 2 = ν.1 26 0 28 ∧
  (∃ u e : Nat, u ≤ 10 ∧ e < 10 ∧ μ.1 0 0 15 = nI u ∧ ν.1 26 0 5 = nI u ∧ μ.1 0 0 14 = nI e ∧ ∀ k, k < u → relP μ p (rowT ν 4 (700 * k)) ∧ relM μ (3 + (e + 10 - u + k) % 10) p (rowT ν 4 (700 * k))) ∧
  ((μ.1 0 0 12 = 0 ∧ ν.1 26 0 7 = 0) ∨ (μ.1 0 0 12 = 1 ∧ ν.1 26 0 7 = 1 ∧ relP μ p (rowT ν 3 0) ∧ relM μ 2 p (rowT ν 3 0))) ∧
  (∀ k, k ≤ 1000 → μ.2.1 3 0 k < 74) ∧
  (∀ j, j < 66 → μ.2.1 9 j 0 < 74 ∧ μ.2.1 9 j 2 < 74 ∧ μ.2.1 9 j 3 < 74 ∧ μ.2.1 9 j 4 < 74) ∧
  (∀ j, j < 104 → ∃ s h r : Nat, s ≤ 8 ∧ h < 8 ∧ r ≤ 8 ∧ μ.1 19 j 0 = nI s ∧ μ.1 19 j 1 = nI r ∧ μ.1 19 j 2 = nI h) ∧
  (∀ j, j < 52 → μ.1 18 j 10 = 0 ∨ μ.1 18 j 10 = 1)
def Rel (p : Nat) (μ : Mem) : Prop := Rel2 p μ μ
theorem rel_thrown {p : Nat} {μ : Mem} {v : Int32} (h : Rel p μ) : Rel p (wI μ 26 0 6 v) := h
