/-! PARSING: labels. When two tokens are spelled alike; the class's and the model's search -/
def smG (c : Nat → Int32) : Nat → Nat → Nat → Bool
  | 0, _, _ => true
  | d + 1, x, y => decide (c x = c y) && smG c d (x + 1) (y + 1)
def smT (c : Nat → Int32) (N x y : Nat) : Bool := decide (tkE c N y - y = tkE c N x - x) && smG c (tkE c N x - x) x y
theorem c_isSameAs {N n t q : Nat} {c : Nat → Int32} {μ : Mem} (hT : TP N n c) (h : CT N n c μ) (ht : t < n) (hq : q < n) (h6 : μ.1 2 0 6 = nI t) (fu : Nat) : fX11_isSameAs (fu + 1001) 0 (nI q) μ = some (if smT c N (tkP c N t) (tkP c N q) = true then 1 else 0, μ) := by
  have hn : n ≤ 1000 := Nat.le_trans hT.1 hT.2.1
  have hN := hT.2.1
  obtain ⟨t1, t2, t3, t4⟩ := h.2.1 t ht
  obtain ⟨q1, q2, q3, q4⟩ := h.2.1 q hq
  have gt := tk_gt (c := c) (hT.2.2.1 t ht)
  have gq := tk_gt (c := c) (hT.2.2.1 q hq)
  generalize tkP c N t = x at *
  generalize tkP c N q = y at *
  generalize ex : tkE c N x = ee at *
  generalize ey : tkE c N y = ff at *
  unfold fX11_isSameAs smT
  simp only [jn_eq, nm_eq]
  rw [if_neg (show ¬ nI q < 0 from nI_pos (by omega)), h.1, if_neg (show ¬ nI n < nI q from fun z => absurd ((nI_ltI (a := n) (b := q) (by omega) (by omega)).1 z) (by omega)), ckI_nI (show q < 1001 by omega) (by decide), ckI_nI (show q < 1001 by omega) (by decide), h6, ckI_nI (show t < 1001 by omega) (by decide), ckI_nI (show t < 1001 by omega) (by decide), nI_clamp (n := q) (by omega), nI_clamp (n := t) (by omega), t1, t2, q1, q2, ex, ey, show nI ff - nI y = nI (ff - y) from pk_sub (by omega), show nI ee - nI x = nI (ee - x) from pk_sub (by omega)]
  by_cases e : ff - y = ee - x
  · rw [if_pos (show nI (ff - y) = nI (ee - x) by rw [e]), decide_eq_true e, Bool.true_and, ckI_nI (show t < 1001 by omega) (by decide), ckI_nI (show q < 1001 by omega) (by decide)]
    refine (lp_ind (P := fun d (f : Mem → Int32 → Int32 → Option (Int32 × Mem)) => ∀ k r, k + r = ee - x → r < d + 1 → f μ (nI (x + k)) (nI (y + k)) = some (if smG c r (x + k) (y + k) = true then 1 else 0, μ)) (fun f k r hk hr => ?_) (fun d f ih k r hk hr => ?_) 1000 fu) 0 (ee - x) (by omega) (by omega)
    · obtain rfl : r = 0 := by omega
      rw [h6, ckI_nI (show t < 1001 by omega) (by decide), nI_clamp (n := t) (by omega), t2, if_pos (show nI ee ≤ nI (x + k) from (nI_leI (by omega) (by omega)).2 (by omega)), ckZ_ok (Or.inr rfl)]
      rfl
    · rw [h6, ckI_nI (show t < 1001 by omega) (by decide), nI_clamp (n := t) (by omega), t2]
      obtain _ | r := r
      · rw [if_pos (show nI ee ≤ nI (x + k) from (nI_leI (by omega) (by omega)).2 (by omega)), ckZ_ok (Or.inr rfl)]
        rfl
      · rw [if_neg (show ¬ nI ee ≤ nI (x + k) from fun z => absurd ((nI_leI (by omega) (by omega)).1 z) (by omega)), ckI_nI (show x + k < 1000 by omega) (by decide), ckI_nI (show y + k < 1000 by omega) (by decide), nI_clamp (n := x + k) (by omega), nI_clamp (n := y + k) (by omega), h.2.2.2.2.2.1, nI_1, nI_1]
        show _ = some (if (decide (c (x + k) = c (y + k)) && smG c r (x + k + 1) (y + k + 1)) = true then 1 else 0, μ)
        by_cases g : c (x + k) = c (y + k)
        · rw [if_pos g, decide_eq_true g, Bool.true_and]
          exact ih (k + 1) r (by omega) (by omega)
        · rw [if_neg g, decide_eq_false g, Bool.false_and, ckZ_ok (Or.inl rfl)]
          rfl
  · rw [if_neg (show ¬ nI (ff - y) = nI (ee - x) from fun z => e (nI_inj (by omega) (by omega) z)), decide_eq_false e, Bool.false_and, ckZ_ok (Or.inl rfl)]
    rfl
/-- the class's labels: L of them, their tokens and addresses -/
def LT (n L : Nat) (lt la : Nat → Nat) (μ : Mem) : Prop := μ.1 10 0 3 = nI L ∧ L ≤ 32 ∧ ∀ i, i < L → μ.1 11 0 i = nI (lt i) ∧ lt i < n ∧ μ.1 11 1 i = nI (la i) ∧ la i ≤ 32
def lkG (c : Nat → Int32) (N : Nat) (lt la : Nat → Nat) (x : Nat) : Nat → Nat → Option Nat
  | 0, _ => none
  | d + 1, i => if smT c N x (tkP c N (lt i)) = true then some (la i) else lkG c N lt la x d (i + 1)
def opN : Option Nat → Int32
  | none => -1
  | some a => nI a
theorem c_labelAddress {N n t L : Nat} {c : Nat → Int32} {lt la : Nat → Nat} {μ : Mem} (hT : TP N n c) (h : CT N n c μ) (ht : t < n) (h6 : μ.1 2 0 6 = nI t) (hL : LT n L lt la μ) (fu : Nat) : fX5_labelAddress (fu + 1001) 0 μ = some (opN (lkG c N lt la (tkP c N t) L 0), μ) := by
  unfold fX5_labelAddress
  simp only [jn_eq, nm_eq]
  have hl := hL.2.1
  refine (lp_ind (P := fun d (f : Mem → Int32 → Option (Int32 × Mem)) => ∀ k r, k + r = L → r < d + 1 → f μ (nI k) = some (opN (lkG c N lt la (tkP c N t) r k), μ)) (fun f k r hk hr => ?_) (fun d f ih k r hk hr => ?_) 1000 fu) 0 L (by omega) (by omega)
  · obtain rfl : r = 0 := by omega
    rw [hL.1, if_pos (show nI L ≤ nI k from (nI_leI (by omega) (by omega)).2 (by omega))]
    rfl
  · rw [hL.1]
    obtain _ | r := r
    · rw [if_pos (show nI L ≤ nI k from (nI_leI (by omega) (by omega)).2 (by omega))]
      rfl
    · obtain ⟨l1, l2, l3, l4⟩ := hL.2.2 k (by omega)
      rw [if_neg (show ¬ nI L ≤ nI k from fun z => absurd ((nI_leI (by omega) (by omega)).1 z) (by omega)), ckI_nI (show k < 32 by omega) (by decide), nI_clamp (n := k) (by omega), l1, c_isSameAs hT h ht l2 h6, bnd_some, nI_1]
      show _ = some (opN (if smT c N (tkP c N t) (tkP c N (lt k)) = true then some (la k) else lkG c N lt la (tkP c N t) r (k + 1)), μ)
      by_cases g : smT c N (tkP c N t) (tkP c N (lt k)) = true
      · rw [if_pos g, if_pos g, if_neg (show ¬ (1 : Int32) = 0 by decide), ckI_nI (show k < 32 by omega) (by decide), l3]
        rfl
      · rw [if_neg g, if_neg g, if_pos (show (0 : Int32) = 0 from rfl)]
        exact ih (k + 1) r (by omega) (by omega)
/-! the model's search -/
theorem by_eq {N : Nat} {b c : Nat → Int32} (h : BY N b c) {x y : Nat} (hx : x < N) (hy : y < N) : b x = b y ↔ c x = c y := by
  obtain ⟨a1, a2⟩ := h x hx
  obtain ⟨b1, b2⟩ := h y hy
  refine ⟨fun z => ?_, fun z => by rw [a1, b1, z]⟩
  rw [a1, b1] at z
  have e : ∀ w : Int32, (w &&& 255).toInt8 = w.toInt8 := fun w => by
    apply Int8.toBitVec_inj.mp
    simp only [Int32.toBitVec_toInt8, Int32.toBitVec_and]
    apply BitVec.eq_of_getLsbD_eq
    intro i hi
    simp [show ((255 : Int32).toBitVec) = 255#32 from rfl]
    intro _
    have : (255#32).getLsbD i = true := by
      have : ∀ i : Fin 8, (255#32).getLsbD i.1 = true := by decide
      exact this ⟨i, hi⟩
    exact this
  rw [← a2, ← b2, ← e (c x), ← e (c y), z]
theorem m_isSame {N x y d : Nat} {c : Nat → Int32} {ν : Mem} (hN : N ≤ 1000) (hB : BY N (ν.1 28 7) c) (hx : x + d ≤ N) (hy : y + d ≤ N) (fu : Nat) : fX13_isSame (fu + 1001) 0 (nI x) (nI y) (nI d) ν = some (if smG c d x y = true then 1 else 0, ν) := by
  unfold fX13_isSame
  simp only [jn_eq, nm_eq]
  refine (lp_ind (P := fun D (f : Mem → Int32 → Option (Int32 × Mem)) => ∀ k r, k + r = d → r < D + 1 → f ν (nI k) = some (if smG c r (x + k) (y + k) = true then 1 else 0, ν)) (fun f k r hk hr => ?_) (fun D f ih k r hk hr => ?_) 1000 fu) 0 d (by omega) (by omega)
  · obtain rfl : r = 0 := by omega
    rw [if_pos (show nI d ≤ nI k from (nI_leI (by omega) (by omega)).2 (by omega)), ckZ_ok (Or.inr rfl)]
    rfl
  · obtain _ | r := r
    · rw [if_pos (show nI d ≤ nI k from (nI_leI (by omega) (by omega)).2 (by omega)), ckZ_ok (Or.inr rfl)]
      rfl
    · rw [if_neg (show ¬ nI d ≤ nI k from fun z => absurd ((nI_leI (by omega) (by omega)).1 z) (by omega)), nI_add, nI_add, ckI_nI (show x + k < mil.getD 7 0 from (show x + k < 1000 by omega)) (by decide), ckI_nI (show y + k < mil.getD 7 0 from (show y + k < 1000 by omega)) (by decide), nI_clamp (n := x + k) (by omega), nI_clamp (n := y + k) (by omega), nI_1]
      show _ = some (if (decide (c (x + k) = c (y + k)) && smG c r (x + k + 1) (y + k + 1)) = true then 1 else 0, ν)
      have be := by_eq hB (show x + k < N by omega) (show y + k < N by omega)
      by_cases g : c (x + k) = c (y + k)
      · rw [if_pos (be.2 g), decide_eq_true g, Bool.true_and]
        exact ih (k + 1) r (by omega) (by omega)
      · rw [if_neg (fun z => g (be.1 z)), decide_eq_false g, Bool.false_and, ckZ_ok (Or.inl rfl)]
        rfl
/-- the model's labels: of each of cnt instructions its label's place and length, or length 0 -/
def MT (N cnt : Nat) (c : Nat → Int32) (lb ll : Nat → Nat) (ν : Mem) : Prop := ∀ a, a < cnt → ν.1 28 8 a = nI (lb a) ∧ ν.1 28 9 a = nI (ll a) ∧ (ll a = 0 ∨ (lb a < N ∧ ll a = tkE c N (lb a) - lb a))
def lkM (c : Nat → Int32) (lb ll : Nat → Nat) (x l : Nat) : Nat → Nat → Option Nat
  | 0, _ => none
  | d + 1, a => if ll a = l ∧ smG c l x (lb a) = true then some a else lkM c lb ll x l d (a + 1)
theorem m_labelled {N x cnt : Nat} {c : Nat → Int32} {lb ll : Nat → Nat} {ν : Mem} (hN : N ≤ 1000) (hB : BY N (ν.1 28 7) c) (hx : x < N) (hc : cnt ≤ 32) (hM : MT N cnt c lb ll ν) (fu : Nat) : fX13_labelled (fu + 1001) 0 (nI x) (nI (tkE c N x - x)) (nI cnt) ν = some (opN (lkM c lb ll x (tkE c N x - x) cnt 0), ν) := by
  have gx := tk_gt (c := c) hx
  unfold fX13_labelled
  simp only [jn_eq, nm_eq]
  refine (lp_ind (P := fun d (f : Mem → Int32 → Option (Int32 × Mem)) => ∀ k r, k + r = cnt → r < d + 1 → f ν (nI k) = some (opN (lkM c lb ll x (tkE c N x - x) r k), ν)) (fun f k r hk hr => ?_) (fun d f ih k r hk hr => ?_) 1000 fu) 0 cnt (by omega) (by omega)
  · obtain rfl : r = 0 := by omega
    rw [if_pos (show nI cnt ≤ nI k from (nI_leI (by omega) (by omega)).2 (by omega))]
    rfl
  · obtain _ | r := r
    · rw [if_pos (show nI cnt ≤ nI k from (nI_leI (by omega) (by omega)).2 (by omega))]
      rfl
    · obtain ⟨l1, l2, l3⟩ := hM k (by omega)
      rw [if_neg (show ¬ nI cnt ≤ nI k from fun z => absurd ((nI_leI (by omega) (by omega)).1 z) (by omega)), ckI_nI (show k < mil.getD 9 0 from (show k < 32 by omega)) (by decide), nI_clamp (n := k) (by omega), l2, nI_1]
      show _ = some (opN (if ll k = tkE c N x - x ∧ smG c (tkE c N x - x) x (lb k) = true then some k else lkM c lb ll x (tkE c N x - x) r (k + 1)), ν)
      by_cases g : ll k = tkE c N x - x
      · have hk' : lb k < N ∧ ll k = tkE c N (lb k) - lb k := by
          rcases l3 with z | z
          · omega
          · exact z
        have gk := tk_gt (c := c) hk'.1
        rw [if_neg (show ¬ ¬ nI (ll k) = nI (tkE c N x - x) from fun z => z (by rw [g])), ckI_nI (show k < mil.getD 8 0 from (show k < 32 by omega)) (by decide), l1, m_isSame hN hB (by omega) (by omega), bnd_some]
        by_cases s : smG c (tkE c N x - x) x (lb k) = true
        · rw [if_pos s, if_neg (show ¬ (1 : Int32) = 0 by decide), if_pos ⟨g, s⟩]
          rfl
        · rw [if_neg s, if_pos (show (0 : Int32) = 0 from rfl), if_neg (fun z => s z.2)]
          exact ih (k + 1) r (by omega) (by omega)
      · rw [if_pos (show ¬ nI (ll k) = nI (tkE c N x - x) from fun z => g (by
          rcases l3 with w | w
          · exact nI_inj (by omega) (by omega) z
          · have gk := tk_gt (c := c) w.1
            exact nI_inj (by omega) (by omega) z)), if_neg (fun z => g z.1)]
        exact ih (k + 1) r (by omega) (by omega)
/-- the two tables agree -/
def LM (N n cnt L : Nat) (c : Nat → Int32) (lt la lb ll : Nat → Nat) : Prop :=
  (∀ i, i < L → la i < cnt) ∧ (∀ i k, i < k → k < L → la i < la k) ∧ (∀ i, i < L → lt i < n) ∧
  ∀ a, a < cnt → (ll a = 0 ∧ ∀ i, i < L → la i ≠ a) ∨ ∃ i, i < L ∧ la i = a ∧ lb a = tkP c N (lt i) ∧ ll a = tkE c N (tkP c N (lt i)) - tkP c N (lt i)
theorem lk_same {N n cnt L x : Nat} {c : Nat → Int32} {lt la lb ll : Nat → Nat} (hT : TP N n c) (h : LM N n cnt L c lt la lb ll) (hx : x < N) : ∀ r a i s, a + r = cnt → i + s = L → (∀ k, k < L → (i ≤ k ↔ a ≤ la k)) → lkM c lb ll x (tkE c N x - x) r a = lkG c N lt la x s i := by
  have gx := tk_gt (c := c) hx
  intro r
  induction r with
  | zero =>
    intro a i s ha hs hk
    obtain _ | s := s
    · rfl
    · exact absurd ((hk i (by omega)).1 (Nat.le_refl i)) (by have := h.1 i (by omega); omega)
  | succ r ih =>
    intro a i s ha hs hk
    show (if ll a = tkE c N x - x ∧ smG c (tkE c N x - x) x (lb a) = true then some a else lkM c lb ll x (tkE c N x - x) r (a + 1)) = _
    rcases h.2.2.2 a (by omega) with ⟨z, w⟩ | ⟨j, j1, j2, j3, j4⟩
    · rw [if_neg (fun y => by have := y.1; omega)]
      refine ih (a + 1) i s (by omega) hs fun k hl => ?_
      have := hk k hl
      have := w k hl
      omega
    · have ij : j = i := by
        have a1 := (hk j j1).2 (by omega)
        by_cases e : j = i
        · exact e
        · have b1 := h.2.1 i j (by omega) j1
          have b2 := (hk i (by omega)).1 (Nat.le_refl i)
          omega
      subst ij
      obtain _ | s := s
      · omega
      · show _ = if smT c N x (tkP c N (lt j)) = true then some (la j) else lkG c N lt la x s (j + 1)
        have e : (ll a = tkE c N x - x ∧ smG c (tkE c N x - x) x (lb a) = true) ↔ smT c N x (tkP c N (lt j)) = true := by
          unfold smT
          rw [j3, j4, Bool.and_eq_true]
          exact ⟨fun z => ⟨decide_eq_true z.1, z.2⟩, fun z => ⟨of_decide_eq_true z.1, z.2⟩⟩
        by_cases g : smT c N x (tkP c N (lt j)) = true
        · rw [if_pos g, if_pos (e.2 g), j2]
        · rw [if_neg g, if_neg (fun z => g (e.1 z))]
          refine ih (a + 1) (j + 1) s (by omega) (by omega) fun k hl => ?_
          have h1 := hk k hl
          by_cases e : k = j
          · subst e; omega
          · by_cases e' : j < k
            · have := h.2.1 j k e' hl
              omega
            · omega
theorem lk_top {N n cnt L x : Nat} {c : Nat → Int32} {lt la lb ll : Nat → Nat} (hT : TP N n c) (h : LM N n cnt L c lt la lb ll) (hx : x < N) : lkM c lb ll x (tkE c N x - x) cnt 0 = lkG c N lt la x L 0 :=
  lk_same hT h hx cnt 0 0 L (by omega) (by omega) fun k _ => ⟨fun _ => Nat.zero_le _, fun _ => Nat.zero_le _⟩
