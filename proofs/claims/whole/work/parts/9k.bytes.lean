/-! TOKENS: the class's bytes and the model's -/
theorem byte_two (c : Int32) (h : c.toInt8.toInt32 = c) : (c &&& 255 = c ∧ 0 ≤ c ∧ c < 128) ∨ (128 ≤ c &&& 255 ∧ c < 0) := by
  have k : ∀ n : Fin 256, ((Int8.ofNat n.1).toInt32 &&& 255 = (Int8.ofNat n.1).toInt32 ∧ 0 ≤ (Int8.ofNat n.1).toInt32 ∧ (Int8.ofNat n.1).toInt32 < 128) ∨ (128 ≤ (Int8.ofNat n.1).toInt32 &&& 255 ∧ (Int8.ofNat n.1).toInt32 < 0) := by decide +kernel
  have e : Int8.ofNat c.toInt8.toBitVec.toNat = c.toInt8 := Int8.toBitVec_inj.1 (by simp)
  have := k ⟨c.toInt8.toBitVec.toNat, c.toInt8.toBitVec.isLt⟩
  simp only [e, h] at this
  exact this
theorem byte_B {c : Int32} (h : c.toInt8.toInt32 = c) : tkB (c &&& 255) = tkB c := by
  rcases byte_two c h with ⟨e, _⟩ | ⟨a, b⟩
  · rw [e]
  · unfold tkB
    refine decide_eq_decide.2 ⟨fun z => ?_, fun z => ?_⟩
    · rcases z with z | z <;> rw [z] at a <;> exact absurd a (by decide)
    · rcases z with z | z <;> rw [z] at b <;> exact absurd b (by decide)
theorem byte_L {c : Int32} (h : c.toInt8.toInt32 = c) : tkL (c &&& 255) = tkL c := by
  rcases byte_two c h with ⟨e, _⟩ | ⟨a, b⟩
  · rw [e]
  · unfold tkL
    exact decide_eq_decide.2 ⟨fun z => absurd (Int32.le_trans a z.2) (by decide), fun z => absurd (Int32.lt_of_le_of_lt z.1 b) (by decide)⟩
theorem byte_D {c : Int32} (h : c.toInt8.toInt32 = c) : tkD (c &&& 255) = tkD c := by
  rcases byte_two c h with ⟨e, _⟩ | ⟨a, b⟩
  · rw [e]
  · unfold tkD
    exact decide_eq_decide.2 ⟨fun z => absurd (Int32.le_trans a z.2) (by decide), fun z => absurd (Int32.lt_of_le_of_lt z.1 b) (by decide)⟩
theorem byte_eq {c v : Int32} (h : c.toInt8.toInt32 = c) (h0 : 0 ≤ v) (h1 : v < 128) : v = c &&& 255 ↔ v = c := by
  rcases byte_two c h with ⟨e, _⟩ | ⟨a, b⟩
  · rw [e]
  · refine ⟨fun z => ?_, fun z => ?_⟩
    · rw [z] at h1
      exact (Int32.lt_irrefl (Int32.lt_of_lt_of_le h1 a)).elim
    · rw [z] at h0
      exact (Int32.lt_irrefl (Int32.lt_of_le_of_lt h0 b)).elim
/-- the model's bytes b and the class's c, up to N -/
def BY (N : Nat) (b c : Nat → Int32) : Prop := ∀ k, k < N → b k = c k &&& 255 ∧ (c k).toInt8.toInt32 = c k
theorem by_F {P : Int32 → Bool} {N : Nat} {b c : Nat → Int32} (h : ∀ k, k < N → P (b k) = P (c k)) : ∀ d x, x + d ≤ N → tkF P b d x = tkF P c d x := by
  intro d
  induction d with
  | zero => intro x _; rfl
  | succ d ih =>
    intro x hx
    show (if P (b x) = true then tkF P b d (x + 1) else x) = (if P (c x) = true then tkF P c d (x + 1) else x)
    rw [h x (by omega), ih (x + 1) (by omega)]
theorem by_S {N x : Nat} {b c : Nat → Int32} (h : BY N b c) (hx : x ≤ N) : tkS b N x = tkS c N x := by_F (fun k hk => by rw [(h k hk).1, byte_B (h k hk).2]) _ _ (by omega)
theorem by_L {N k : Nat} {b c : Nat → Int32} (h : BY N b c) (hk : k < N) : tkL (b k) = tkL (c k) := by rw [(h k hk).1, byte_L (h k hk).2]
theorem by_D {N k : Nat} {b c : Nat → Int32} (h : BY N b c) (hk : k < N) : tkD (b k) = tkD (c k) := by rw [(h k hk).1, byte_D (h k hk).2]
theorem by_E {N x : Nat} {b c : Nat → Int32} (h : BY N b c) (hx : x < N) : tkE b N x = tkE c N x := by
  unfold tkE
  rw [by_L h hx, by_D h hx, by_F (fun k hk => by_L h hk) _ _ (by omega), by_F (fun k hk => by_D h hk) _ _ (by omega)]
theorem by_K {N x : Nat} {b c : Nat → Int32} (h : BY N b c) (hx : x < N) : tkK b x = tkK c x := by
  unfold tkK
  rw [by_L h hx, by_D h hx]
theorem tx_rng {i j : Nat} (h : j < txN.getD i 0) : 0 ≤ txC i j ∧ txC i j < 128 := by
  have k : ∀ i, i < 70 → ∀ j, j < 12 → 0 ≤ txC i j ∧ txC i j < 128 := by decide +kernel
  have hl := tx_len i
  by_cases hi : i < 70
  · exact k i hi j (by omega)
  · rw [List.getD_eq_getElem?_getD, List.getElem?_eq_none (by show 70 ≤ i; omega)] at h
    exact absurd h (by simp)
theorem by_G {N x i : Nat} {b c : Nat → Int32} (h : BY N b c) : ∀ d j, j + d ≤ txN.getD i 0 → x + j + d ≤ N → wdG b x i d j = wdG c x i d j := by
  intro d
  induction d with
  | zero => intro j _ _; rfl
  | succ d ih =>
    intro j h1 h2
    show (decide (txC i j = b (x + j)) && wdG b x i d (j + 1)) = (decide (txC i j = c (x + j)) && wdG c x i d (j + 1))
    have r := tx_rng (i := i) (j := j) (by omega)
    have q := h (x + j) (by omega)
    rw [ih (j + 1) (by omega) (by omega), q.1, decide_eq_decide.2 (byte_eq q.2 r.1 r.2)]
theorem by_W {N x e i : Nat} {b c : Nat → Int32} (h : BY N b c) (he : e ≤ N) : wdE b x e i = wdE c x e i := by
  unfold wdE
  by_cases g : x + txN.getD i 0 = e
  · rw [by_G h _ _ (by omega) (by omega)]
  · rw [decide_eq_false g, Bool.false_and, Bool.false_and]
/-- the model's isWord: no error, a word, spelled so -/
theorem m_isWord {ν : Mem} {i s e : Nat} (he : e ≤ 1000) (hs : s ≤ e) (h24 : ν.1 26 0 24 = nI s) (h23 : ν.1 26 0 23 = nI e) (fu : Nat) :
    fX13_isWord (fu + 14) 0 i ν = some (if ν.1 26 0 26 = 0 ∧ ν.1 26 0 25 = 1 ∧ wdE (ν.1 28 7) s e i = true then 1 else 0, ν) := by
  unfold fX13_isWord
  simp only [jn_eq, nm_eq]
  have hl := tx_len i
  have eL : ∀ μ, fJ0_length_8abf5 i μ = some (nI (txN.getD i 0), μ) := fun _ => rfl
  simp only [eL, bnd_some, h24, h23]
  by_cases h1 : ν.1 26 0 26 = 0
  · by_cases h2 : ν.1 26 0 25 = 1
    · by_cases h3 : s + txN.getD i 0 = e
      · have ew : wdE (ν.1 28 7) s e i = wdG (ν.1 28 7) s i (txN.getD i 0) 0 := by unfold wdE; rw [decide_eq_true h3, Bool.true_and]
        have ev : (if ν.1 26 0 26 = 0 ∧ ν.1 26 0 25 = 1 ∧ wdE (ν.1 28 7) s e i = true then (1 : Int32) else 0) = if wdG (ν.1 28 7) s i (txN.getD i 0) 0 = true then 1 else 0 := by
          rw [ew]
          by_cases g : wdG (ν.1 28 7) s i (txN.getD i 0) 0 = true
          · rw [if_pos g, if_pos ⟨h1, h2, g⟩]
          · rw [if_neg g, if_neg (fun z => g z.2.2)]
        rw [ev, if_neg (fun z => z h1), if_neg (fun z => z h2), show nI e - nI s = nI (e - s) from pk_sub hs, if_neg (show ¬ ¬ nI (txN.getD i 0) = nI (e - s) from fun z => z (by congr 1; omega))]
        refine (lp_ind (P := fun d (f : Mem → Int32 → Int32 → Option (Int32 × Mem)) => (∀ y, f ν 0 y = some (0, ν)) ∧ ∀ j q, j + q = txN.getD i 0 → q < d → f ν 1 (nI j) = some (if wdG (ν.1 28 7) s i q j = true then 1 else 0, ν)) (fun f => ⟨fun y => ?_, fun j q _ hd => absurd hd (by omega)⟩) (fun d f ih => ⟨fun y => ?_, fun j q hq hd => ?_⟩) 13 fu).2 0 _ (by omega) (by omega)
        · rw [if_pos (show (0 : Int32) = 0 from rfl), ckZ_ok (Or.inl rfl)]
        · rw [if_pos (show (0 : Int32) = 0 from rfl), ckZ_ok (Or.inl rfl)]
        · rw [if_neg (show ¬ (1 : Int32) = 0 by decide)]
          obtain _ | q := q
          · rw [if_pos (show nI (txN.getD i 0) ≤ nI j from (nI_leI (by omega) (by omega)).2 (by omega)), ckZ_ok (Or.inr rfl)]
            rfl
          · rw [if_neg (show ¬ nI (txN.getD i 0) ≤ nI j from fun z => absurd ((nI_leI (by omega) (by omega)).1 z) (by omega)), f_charAt (by omega) (by omega), bnd_some, h24, nI_add, ckI_nI (show s + j < mil.getD 7 0 from (show s + j < 1000 by omega)) (by decide), nI_clamp (n := s + j) (by omega), nI_1]
            show _ = some (if (decide (txC i j = ν.1 28 7 (s + j)) && wdG (ν.1 28 7) s i q (j + 1)) = true then 1 else 0, ν)
            by_cases g : txC i j = ν.1 28 7 (s + j)
            · rw [if_neg (fun z => z g), decide_eq_true g, Bool.true_and]
              exact ih.2 (j + 1) q (by omega) (by omega)
            · rw [if_pos g, decide_eq_false g, Bool.false_and, ih.1]
              rfl
      · have ev : wdE (ν.1 28 7) s e i = false := by unfold wdE; rw [decide_eq_false h3, Bool.false_and]
        rw [ev, if_neg (fun z => z h1), if_neg (fun z => z h2), show nI e - nI s = nI (e - s) from pk_sub hs, if_pos (show ¬ nI (txN.getD i 0) = nI (e - s) from fun z => h3 (by have := nI_inj (a := txN.getD i 0) (b := e - s) (by omega) (by omega) z; omega)), if_neg (show ¬ (ν.1 26 0 26 = 0 ∧ ν.1 26 0 25 = 1 ∧ false = true) from fun z => absurd z.2.2 (by decide)), lp_succ, if_pos (show (0 : Int32) = 0 from rfl), ckZ_ok (Or.inl rfl)]
    · rw [if_neg (fun z => z h1), if_pos h2, if_neg (show ¬ (ν.1 26 0 26 = 0 ∧ ν.1 26 0 25 = 1 ∧ wdE (ν.1 28 7) s e i = true) from fun z => h2 z.2.1), lp_succ, if_pos (show (0 : Int32) = 0 from rfl), ckZ_ok (Or.inl rfl)]
  · rw [if_pos h1, if_neg (show ¬ (ν.1 26 0 26 = 0 ∧ ν.1 26 0 25 = 1 ∧ wdE (ν.1 28 7) s e i = true) from fun z => h1 z.1), lp_succ, if_pos (show (0 : Int32) = 0 from rfl), ckZ_ok (Or.inl rfl)]
