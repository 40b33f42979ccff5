/-! A TICK, class and model -/
def WT (i e κ n k : Nat) : Prop := (κ = 18 ∧ n = 4 * i + e ∧ k ≠ 10) ∨ (κ = 21 ∧ n = 4 * i + e) ∨ ((κ = 19 ∨ κ = 20) ∧ (n = 2 * (4 * i + e) ∨ n = 2 * (4 * i + e) + 1)) ∨ (κ = 12 ∧ n = i ∧ (k = 1 ∨ k = 2)) ∨ (κ = 13 ∧ n = i) ∨ (κ = 22 ∧ n = 0 ∧ (k = 4 ∨ k = 5 ∨ k = 6))
def WV (e κ n k : Nat) : Prop := WM e κ n k ∨ (κ = 28 ∧ n = 6 ∧ k = e)
theorem wc_wt {i e κ n k : Nat} (h : WC i e κ n k) : WT i e κ n k := by unfold WC at h; unfold WT; omega
/-- the instruction's writing, then the side outputs -/
def apF (ν : Mem) (e : Nat) (L D : Nat → Bool) (q : Nat) : Bool × Bool :=
  if ν.1 28 6 e = -1 then apW ν e L D q else (wrB (tN ν (476 + 21 * e + 9)).toNatClampNeg (tN ν (476 + 21 * e + 10)).toNatClampNeg (ν.1 28 6 e) (fun q => (apW ν e L D q).1) q, (apW ν e L D q).2)
def TK (i e cnt : Nat) (μa νa : Mem) (r : Int32) (μ ν : Mem) : Prop :=
  (μ.2 = μa.2 ∧ ν.2 = νa.2) ∧ (∀ κ n k, ¬ WT i e κ n k → μ.1 κ n k = μa.1 κ n k) ∧ (∀ κ n k, ¬ WV e κ n k → ν.1 κ n k = νa.1 κ n k) ∧
  relE μ (4 * i + e) (tN νa (476 + 21 * e + 19)) (tN νa (476 + 21 * e + 20)) (fun k => tN ν (560 + 35 * e + k)) ∧ (∃ a : Nat, a < cnt ∧ tN ν (560 + 35 * e + 1) = nI a) ∧
  (∀ a, a < 16 → tN ν (108 + a) = μ.1 13 i a) ∧ (ν.1 26 0 16 = μ.1 22 0 4 ∧ ν.1 26 0 17 = μ.1 22 0 5) ∧
  (∀ q, q < 16 → (bt (μ.1 12 i 1) q, bt (μ.1 12 i 2) q) = apF ν e (bt (μa.1 12 i 1)) (bt (μa.1 12 i 2)) q) ∧ wok ν e ∧
  ((r = 0 ∧ μ.1 21 (4 * i + e) 0 = μa.1 21 (4 * i + e) 0) ∨ (r = 1 ∧ μ.1 21 (4 * i + e) 0 = μa.1 21 (4 * i + e) 0 + 1))
theorem wI_comm {μ : Mem} {a b c a' b' c' : Nat} {v v' : Int32} (h : ¬ (a = a' ∧ b = b' ∧ c = c')) : wI (wI μ a b c v) a' b' c' v' = wI (wI μ a' b' c' v') a b c v := by
  refine Prod.ext (funext fun x => funext fun y => funext fun z => ?_) rfl
  simp only [wI_at]
  by_cases h1 : x = a ∧ y = b ∧ z = c
  · have h2 : ¬ (x = a' ∧ y = b' ∧ z = c') := fun q => h ⟨h1.1.symm.trans q.1, h1.2.1.symm.trans q.2.1, h1.2.2.symm.trans q.2.2⟩
    rw [if_neg h2, if_pos h1, if_pos h1]
  · rw [if_neg h1, if_neg h1]
theorem relS1_T {μ : Mem} {j cnt : Nat} {S S' : Nat → Int32} (es : ∀ k, k < 21 → S' k = S k) (hS : relS1 μ j cnt S) : relS1 μ j cnt S' := by
  obtain ⟨a0, a1, a2, a3, a4, a5, a6, a7, a8, a9, a10, a11, a12, a13, a14, a15⟩ := hS
  refine ⟨a0, (es 0 (by decide)).trans a1, ?_, ?_, ?_, ?_, fun g hg => ?_, ?_, ?_, ?_, ?_, ?_, ?_, ?_, ?_, ?_⟩
  · rw [es 1 (by decide)]; exact a2
  · rw [es 2 (by decide)]; exact a3
  · rw [es 4 (by decide)]; exact a4
  · rw [es 3 (by decide)]; exact a5
  · rw [es (5 + 2 * g) (by omega), es (6 + 2 * g) (by omega)]; exact a6 g hg
  · rw [es 11 (by decide)]; exact a7
  · rw [es 12 (by decide)]; exact a8
  · rw [es 13 (by decide)]; exact a9
  · rw [es 14 (by decide)]; exact a10
  · rw [es 16 (by decide)]; exact a11
  · rw [es 18 (by decide)]; exact a12
  · rw [es 15 (by decide)]; exact a13
  · rw [es 17 (by decide)]; exact a14
  · rw [es 19 (by decide), es 20 (by decide)]; exact a15
section
variable {p i e cnt a : Nat} {nx : Int32} {μ0 ν0 μ ν : Mem} {w : Bool}
theorem bs_congr {μ' ν' : Mem} (hr : μ'.2 = μ.2) (h5 : ∀ n k, μ'.1 5 n k = μ.1 5 n k) (h8 : ∀ n k, μ'.1 8 n k = μ.1 8 n k) (h9 : ∀ n k, μ'.1 9 n k = μ.1 9 n k) (hl : ∀ k, k = 2 ∨ k = 3 → μ'.1 22 0 k = μ.1 22 0 k)
    (hT : ∀ k, (k = 0 ∨ (284 ≤ k ∧ k < 560)) → tN ν' k = tN ν k) (hL : ∀ n k, n < 2 → ν'.1 28 n k = ν.1 28 n k) (B : BS p i e cnt μ ν) : BS p i e cnt μ' ν' := by
  obtain ⟨⟨b1, b2, b3, b4, b5⟩, ⟨c1, c2, c3, c4⟩, hI, hS, hlv, hfl⟩ := B
  have f8 : μ'.1 8 = μ.1 8 := funext fun n => funext fun k => h8 n k
  have f9 : μ'.1 9 = μ.1 9 := funext fun n => funext fun k => h9 n k
  refine ⟨⟨b1, b2, b3, by rw [hr]; exact b4, by rw [hr]; exact b5⟩, ⟨c1, c2, (hT 0 (Or.inl rfl)).trans c3, (h5 _ _).trans c4⟩, fun a ha => ?_, ?_, fun q hq => ?_, fun f hf => ?_⟩
  · have := relI_T (P' := fun k => tN ν' (284 + 6 * a + k)) (fun k hk => hT _ (Or.inr ⟨by omega, by omega⟩)) (hI a ha)
    unfold relI at this ⊢
    rw [f9, hr]
    exact this
  · have := relS1_T (S' := fun k => tN ν' (476 + 21 * e + k)) (fun k hk => hT _ (Or.inr ⟨by omega, by omega⟩)) hS
    unfold relS1 at this ⊢
    rw [f8]
    exact this
  · rw [hL 0 _ (by decide), hl 2 (Or.inl rfl)]; exact hlv q hq
  · rw [hL 1 _ (by decide), hl 3 (Or.inr rfl)]; exact hfl f hf
/-- the address that comes next -/
theorem pr_next (B : BS p i e cnt μ ν) (ha : a < cnt) : ∃ x : Nat, x < cnt ∧ fX4_addressAfter p (nI a) (4 * p + e) μ = some (nI x, μ) ∧
    ∀ ν' : Mem, tN ν' (560 + 35 * e + 1) = nI a → (∀ f, f < 21 → tN ν' (476 + 21 * e + f) = tN ν (476 + 21 * e + f)) → tN ν' 0 = tN ν 0 → fX13_nextAddress 0 (nI e) ν' = some (nI x, ν') := by
  obtain ⟨⟨b1, b2, he, b4, b5⟩, ⟨c1, c2, c3, c4⟩, _, hS, _⟩ := B
  obtain ⟨_, _, _, _, htop, ⟨bo, hbo, o1, o2⟩, _⟩ := hS
  have key : ∀ t : Int32, tN ν (476 + 21 * e + 4) = t → μ.1 8 (4 * p + e) 3 = t → ∃ x : Nat, x < cnt ∧ fX4_addressAfter p (nI a) (4 * p + e) μ = some (nI x, μ) ∧
    ∀ ν' : Mem, tN ν' (560 + 35 * e + 1) = nI a → (∀ f, f < 21 → tN ν' (476 + 21 * e + f) = tN ν (476 + 21 * e + f)) → tN ν' 0 = tN ν 0 → fX13_nextAddress 0 (nI e) ν' = some (nI x, ν') := by
    intro t t1 t2
    unfold fX4_addressAfter fX13_nextAddress
    simp only [jn_eq]
    have r1 : ∀ ν', tN ν' (560 + 35 * e + 1) = nI a → fX13_of 0 (nI e) 1 ν' = some (nI a, ν') := fun ν' h => by rw [show (1 : Int32) = nI 1 from rfl, r_of (by omega), h]
    have rs : ∀ (ν' : Mem) (f : Nat), f < 21 → (∀ f, f < 21 → tN ν' (476 + 21 * e + f) = tN ν (476 + 21 * e + f)) → fX13_setting 0 (nI e) (nI f) ν' = some (tN ν (476 + 21 * e + f), ν') := fun ν' f hf h => by rw [r_setting (by omega), h f hf]
    by_cases ht : nI a = t
    · refine ⟨bo, hbo, ?_, fun ν' h1 h2 h3 => ?_⟩
      · rw [t2, if_neg (fun q => q ht), o2]
      · have s4 : fX13_setting 0 (nI e) 4 ν' = _ := rs ν' 4 (by decide) h2
        have s3 : fX13_setting 0 (nI e) 3 ν' = _ := rs ν' 3 (by decide) h2
        rw [r1 ν' h1, bnd_some, s4, bnd_some, t1, if_neg (fun q => q ht), s3, bnd_some]
        exact congrArg (fun z => some (z, ν')) o1
    · have hx : (if cnt ≤ a + 1 then 0 else a + 1) = (a + 1) % cnt := by
        by_cases h : cnt ≤ a + 1
        · rw [if_pos h, show a + 1 = cnt by omega, Nat.mod_self]
        · rw [if_neg h, Nat.mod_eq_of_lt (by omega)]
      refine ⟨(a + 1) % cnt, Nat.mod_lt _ c1, ?_, fun ν' h1 h2 h3 => ?_⟩
      · rw [t2, if_pos ht, c4, nI_1, ← hx]
        by_cases h : cnt ≤ a + 1
        · rw [if_pos (nI_le h (by omega)), if_pos h]; rfl
        · rw [if_neg (nI_ge (by omega) (by omega)), if_neg h]
      · have s4 : fX13_setting 0 (nI e) 4 ν' = _ := rs ν' 4 (by decide) h2
        have e0 : ν'.1 27 0 (0 : Int32).toNatClampNeg = nI cnt := h3.trans c3
        rw [r1 ν' h1, bnd_some, s4, bnd_some, t1, if_pos ht, ckI_at (i := 0) (by decide), e0, ckD_ok (nI_ne0 c1 (by omega)), nI_1, remN (by omega) c1 (by omega)]
  rcases htop with ⟨t1, t2⟩ | ⟨n, hn, t1, t2⟩
  · exact key (-1) t1 t2
  · exact key (nI n) t1 t2
theorem c_insAt (h5 : μ.1 5 p 0 = nI cnt) (hc : cnt ≤ 32) (ha : a < cnt) : fX4_instructionAt p (nI a) μ = some (33 * p + a, μ) := by
  unfold fX4_instructionAt
  simp only [jn_eq]
  rw [if_neg (nI_pos (by omega)), h5, if_pos (nI_lt ha (by omega)), ckI_nI (by omega) (by decide), nI_clamp (by omega)]
theorem relE_w {j k : Nat} {v b1 b2 : Int32} (hk : k < 10) (c5 : k = 5 ∨ k = 6 → ∃ n : Nat, n ≤ 32 ∧ v = nI n) (c7 : k = 7 → ∃ n : Nat, n ≤ 31 ∧ v = nI n) (c8 : k = 8 → ∃ n : Nat, n ≤ 5 ∧ v = nI n) (h : relE μ j b1 b2 (fun k => tN ν (560 + 35 * e + k))) :
    relE (wI μ 18 j k v) j b1 b2 (fun c => tN (wI ν 27 0 (560 + 35 * e + (k + 1)) v) (560 + 35 * e + c)) := by
  refine relE_put (v := v) hk (fun c => ?_) (fun c => wI_o (by omega)) (fun t c _ => wI_o (by omega)) (fun t c _ => wI_o (by omega)) (fun c hc => ?_) c5 c7 c8 h
  · rw [wI_at]
    by_cases hh : c = k
    · rw [if_pos ⟨rfl, rfl, hh⟩, if_pos hh]
    · rw [if_neg (fun q => hh q.2.2), if_neg hh]
  · show tN (wI ν 27 0 _ v) _ = _
    rw [tN_wI]
    by_cases hh : c = k + 1
    · rw [if_pos (by omega), if_pos hh]
    · rw [if_neg (by omega), if_neg hh]
theorem relE_c {j k : Nat} {v b1 b2 : Int32} (hk : k < 6) (h : relE μ j b1 b2 (fun k => tN ν (560 + 35 * e + k))) : relE (wI μ 21 j k v) j b1 b2 (fun c => tN (wI ν 27 0 (560 + 35 * e + (29 + k)) v) (560 + 35 * e + c)) := by
  refine relE_cnt (v := v) hk (fun c => wI_o (by omega)) (fun c => ?_) (fun t c _ => wI_o (by omega)) (fun t c _ => wI_o (by omega)) (fun c hc => ?_) h
  · rw [wI_at]
    by_cases hh : c = k
    · rw [if_pos ⟨rfl, rfl, hh⟩, if_pos hh]
    · rw [if_neg (fun q => hh q.2.2), if_neg hh]
  · show tN (wI ν 27 0 _ v) _ = _
    rw [tN_wI]
    by_cases hh : c = 29 + k
    · rw [if_pos (by omega), if_pos hh]
    · rw [if_neg (by omega), if_neg hh]
theorem fr_t {μa : Mem} {a b c : Nat} {v : Int32} (h : ∀ κ n k, ¬ WT i e κ n k → μ.1 κ n k = μa.1 κ n k) (hw : WT i e a b c) : ∀ κ n k, ¬ WT i e κ n k → (wI μ a b c v).1 κ n k = μa.1 κ n k := fun κ n k q => by
  rw [wI_at, if_neg (fun z => q (by obtain ⟨rfl, rfl, rfl⟩ := z; exact hw))]; exact h κ n k q
theorem fr_v {νa : Mem} {a b c : Nat} {v : Int32} (h : ∀ κ n k, ¬ WV e κ n k → ν.1 κ n k = νa.1 κ n k) (hw : WV e a b c) : ∀ κ n k, ¬ WV e κ n k → (wI ν a b c v).1 κ n k = νa.1 κ n k := fun κ n k q => by
  rw [wI_at, if_neg (fun z => q (by obtain ⟨rfl, rfl, rfl⟩ := z; exact hw))]; exact h κ n k q
theorem nI_m1 {a : Nat} (h : a < 2 ^ 31) : ¬ nI a = -1 := fun q => nI_pos h (by rw [q]; decide)
theorem apF_congr {ν' : Mem} (h : ∀ n, (n = 2 ∨ n = 3 ∨ n = 4 ∨ n = 5 ∨ n = 6) → ν'.1 28 n e = ν.1 28 n e) (h9 : tN ν' (476 + 21 * e + 9) = tN ν (476 + 21 * e + 9)) (h10 : tN ν' (476 + 21 * e + 10) = tN ν (476 + 21 * e + 10)) {L D : Nat → Bool} {q : Nat} : apF ν' e L D q = apF ν e L D q := by
  unfold apF apW
  rw [h 2 (by decide), h 3 (by decide), h 4 (by decide), h 5 (by decide), h 6 (by decide), h9, h10]
theorem wok_congr {ν' : Mem} (h : ∀ n, (n = 2 ∨ n = 3 ∨ n = 4) → ν'.1 28 n e = ν.1 28 n e) (q : wok ν e) : wok ν' e := by
  unfold wok at q ⊢
  rw [h 2 (by decide), h 3 (by decide), h 4 (by decide)]
  exact q
/-- the end of a tick: the side outputs, the stall, the counts, the pc. d: the instruction's delay; sv: its side value, or -1 -/
theorem pr_end {nx' : Nat} (B : BS p i e cnt μ0 ν0) (h : RT i e cnt (nI nx') μ0 ν0 μ ν true) (ha : a < cnt) {m d : Nat} {sv : Int32} (hm : m ≤ 5) (hd : d ≤ 31) (hx : nx' < cnt) (hpc : μ0.1 18 (4 * i + e) 0 = nI a) (hsv : ν0.1 28 6 e = sv)
    (hn : ∀ ν' : Mem, tN ν' (560 + 35 * e + 1) = nI a → (∀ f, f < 21 → tN ν' (476 + 21 * e + f) = tN ν0 (476 + 21 * e + f)) → tN ν' 0 = tN ν0 0 → fX13_nextAddress 0 (nI e) ν' = some (nI nx', ν'))
    {μa νa : Mem} (hμ : μ0.2 = μa.2 ∧ ∀ κ n k, ¬ WT i e κ n k → μ0.1 κ n k = μa.1 κ n k) (hν : ν0.2 = νa.2 ∧ ∀ κ n k, ¬ WV e κ n k → ν0.1 κ n k = νa.1 κ n k) (h21 : μ0.1 21 (4 * i + e) 0 = μa.1 21 (4 * i + e) 0) (h12 : μ0.1 12 i 1 = μa.1 12 i 1 ∧ μ0.1 12 i 2 = μa.1 12 i 2)
    {μs : Mem} (hs : μs = if sv = -1 then μ else wI μ 12 i 1 ((μ.1 12 i 1 &&& (μ0.1 8 (4 * p + e) 10 ^^^ (-1))) ||| (rotP sv (μ0.1 8 (4 * p + e) 9) &&& μ0.1 8 (4 * p + e) 10))) :
    ∃ r μ' ν', (if nI m = 0 then ckI (0 : Int32) (6) (ckI (0 : Int32) (6) (ckZ (1 : Int32) (some ((1 : Int32), wI (wI (wI (wI μs 18 (4 * i + e) 8 (nI m)) 18 (4 * i + e) 7 (nI d)) 18 (4 * i + e) 0 ((wI (wI μs 18 (4 * i + e) 8 (nI m)) 18 (4 * i + e) 7 (nI d)).1 22 0 6)) 21 (4 * i + e) (0 : Int32).toNatClampNeg ((wI (wI (wI μs 18 (4 * i + e) 8 (nI m)) 18 (4 * i + e) 7 (nI d)) 18 (4 * i + e) 0 ((wI (wI μs 18 (4 * i + e) 8 (nI m)) 18 (4 * i + e) 7 (nI d)).1 22 0 6)).1 21 (4 * i + e) (0 : Int32).toNatClampNeg + (1 : Int32))))))
        else (ckI (1 : Int32) (6) (ckI (1 : Int32) (6) (ckZ (0 : Int32) (some ((0 : Int32), wI (wI μs 18 (4 * i + e) 8 (nI m)) 21 (4 * i + e) (1 : Int32).toNatClampNeg ((wI μs 18 (4 * i + e) 8 (nI m)).1 21 (4 * i + e) (1 : Int32).toNatClampNeg + (1 : Int32)))))))) = some (r, μ') ∧
      (bnd (fX13_set 0 (nI e) (9 : Int32) (nI m) ν) fun _ μ31 => if ¬ nI m = 0 then (bnd (fX13_note 0 (nI e) 1 μ31) fun _ μ13 => if ¬ nI m = 0 then some ((), μ13) else (bnd (fX13_set 0 (nI e) (8 : Int32) (nI d) μ13) fun _ μ22 => if (μ22.1 26 0 19) = (-1 : Int32) then (bnd (fX13_nextAddress 0 (nI e) μ22) fun x25 μ24 => bnd (fX13_set 0 (nI e) 1 x25 μ24) fun _ μ21 => some ((), μ21)) else (bnd (fX13_set 0 (nI e) 1 (μ22.1 26 0 19) μ22) fun _ μ21 => some ((), μ21))))
        else (bnd (fX13_note 0 (nI e) 0 μ31) fun _ μ13 => if ¬ nI m = 0 then some ((), μ13) else (bnd (fX13_set 0 (nI e) (8 : Int32) (nI d) μ13) fun _ μ22 => if (μ22.1 26 0 19) = (-1 : Int32) then (bnd (fX13_nextAddress 0 (nI e) μ22) fun x25 μ24 => bnd (fX13_set 0 (nI e) 1 x25 μ24) fun _ μ21 => some ((), μ21)) else (bnd (fX13_set 0 (nI e) 1 (μ22.1 26 0 19) μ22) fun _ μ21 => some ((), μ21))))) = some ((), ν') ∧ TK i e cnt μa νa r μ' ν' := by
  obtain ⟨⟨hp2, hi, he, _, _⟩, ⟨c1, c2, c3, c4⟩, _⟩ := id B
  obtain ⟨bg, sg, hb, hsz, g1, g2, g3, g4⟩ := bs_grp B (g := 2) (by decide)
  have hpcμ : μ.1 18 (4 * i + e) 0 = nI a := (h.2.1 18 _ 0 (by unfold WC; omega)).trans hpc
  have h210 : μ.1 21 (4 * i + e) 0 = μ0.1 21 (4 * i + e) 0 := h.2.1 21 _ 0 (by unfold WC; omega)
  have hsvν : ν.1 28 6 e = sv := (h.2.2.1 28 6 e (by unfold WM; omega)).trans hsv
  obtain ⟨⟨h1, h2⟩, hc, hm', hE, hmem, ⟨hr1, hr2⟩, hx', hp⟩ := h
  -- what stays under the side outputs
  have so : ∀ {κ n k : Nat}, ¬ (κ = 12 ∧ n = i ∧ k = 1) → μs.1 κ n k = μ.1 κ n k := fun {κ n k} q => by
    rw [hs]; split
    · rfl
    · exact wI_o q
  have s2 : μs.2 = μ.2 := by rw [hs]; split <;> rfl
  have Es := relE_cg (μ' := μs) (fun c => so (by omega)) (fun c => so (by omega)) (fun t c _ => so (by omega)) (fun t c _ => so (by omega)) hE
  have Es2 : relE μs (4 * i + e) (tN νa (476 + 21 * e + 19)) (tN νa (476 + 21 * e + 20)) (fun k => tN ν (560 + 35 * e + k)) := by
    have e1 : tN ν0 (476 + 21 * e + 19) = tN νa (476 + 21 * e + 19) := hν.2 27 0 _ (by unfold WV WM; omega)
    have e2 : tN ν0 (476 + 21 * e + 20) = tN νa (476 + 21 * e + 20) := hν.2 27 0 _ (by unfold WV WM; omega)
    rw [← e1, ← e2]; exact Es
  have fs : ∀ κ n k, ¬ WT i e κ n k → μs.1 κ n k = μa.1 κ n k := fun κ n k q => by
    rw [so (fun z => q (by unfold WT; omega)), hc κ n k (fun z => q (wc_wt z))]; exact hμ.2 κ n k q
  have fv : ∀ κ n k, ¬ WV e κ n k → ν.1 κ n k = νa.1 κ n k := fun κ n k q => (hm' κ n k (fun z => q (Or.inl z))).trans (hν.2 κ n k q)
  have pins : ∀ q, q < 16 → (bt (μs.1 12 i 1) q, bt (μs.1 12 i 2) q) = apF ν e (bt (μa.1 12 i 1)) (bt (μa.1 12 i 2)) q := fun q hq => by
    have hpq := hp.2.2 q hq
    rw [h12.1, h12.2] at hpq
    unfold apF
    rw [hsvν]
    by_cases hv : sv = -1
    · rw [if_pos hv, hs, if_pos hv]; exact hpq
    · have t9 : tN ν (476 + 21 * e + 9) = nI bg := (hm' 27 0 _ (by unfold WM; omega)).trans g1
      have t10 : tN ν (476 + 21 * e + 10) = nI sg := (hm' 27 0 _ (by unfold WM; omega)).trans g2
      rw [if_neg hv, hs, if_neg hv, wI_same, wI_o (by omega), t9, t10, nI_clamp (by omega), nI_clamp (by omega), show μ0.1 8 (4 * p + e) 9 = nI bg from g3, bt_group hb hq g4, ← hpq]
      have e1 : (apW ν e (bt (μa.1 12 i 1)) (bt (μa.1 12 i 2)) q).1 = bt (μ.1 12 i 1) q := by rw [← hpq]
      show (wrB bg sg sv (bt (μ.1 12 i 1)) q, bt (μ.1 12 i 2) q) = ((if grpM bg sg q = true then bt sv ((q + (16 - bg)) % 16) else (apW ν e (bt (μa.1 12 i 1)) (bt (μa.1 12 i 2)) q).1), bt (μ.1 12 i 2) q)
      rw [e1]
      rfl
  have e9 : fX13_set 0 (nI e) 9 (nI m) ν = _ := m_setE (k := 8) he (by decide)
  have E1 := relE_w (k := 8) (v := nI m) (by decide) (fun q => by omega) (fun q => by omega) (fun _ => ⟨m, hm, rfl⟩) Es2
  rw [e9, bnd_some]
  by_cases h0 : m = 0
  · subst h0
    have n0 : fX13_note 0 (nI e) 0 (wI ν 27 0 (560 + 35 * e + (8 + 1)) (nI 0)) = _ := m_note (k := 0) he (by decide)
    have cv : tN (wI ν 27 0 (560 + 35 * e + (8 + 1)) (nI 0)) (560 + 35 * e + (29 + 0)) = μs.1 21 (4 * i + e) 0 := by
      rw [tN_o (by omega)]; exact Es2.2.2.2.1 0 (by decide)
    have E2 := relE_c (k := 0) (v := μs.1 21 (4 * i + e) 0 + 1) (by decide) E1
    have E3 := relE_w (k := 7) (v := nI d) (by decide) (fun q => by omega) (fun _ => ⟨d, hd, rfl⟩) (fun q => by omega) E2
    have e8 : ∀ ν, fX13_set 0 (nI e) 8 (nI d) ν = _ := fun ν => m_setE (k := 7) he (by decide)
    have e1 : ∀ v ν, fX13_set 0 (nI e) 1 v ν = _ := fun v ν => m_setE (k := 0) he (by decide)
    rw [if_pos (show nI 0 = 0 from rfl), if_neg (show ¬ ¬ nI 0 = 0 from nn0), n0, cv, bnd_some, if_neg (show ¬ ¬ nI 0 = 0 from nn0), e8, bnd_some, ckI_at (i := 0) (by decide), ckI_at (i := 0) (by decide), ckZ_ok (Or.inr rfl)]
    rw [show (wI (wI (wI ν 27 0 (560 + 35 * e + (8 + 1)) (nI 0)) 27 0 (560 + 35 * e + (29 + 0)) (μs.1 21 (4 * i + e) 0 + 1)) 27 0 (560 + 35 * e + (7 + 1)) (nI d)).1 26 0 19 = ν.1 26 0 19 from (wI_o (by omega)).trans ((wI_o (by omega)).trans (wI_o (by omega))), show (wI (wI μs 18 (4 * i + e) 8 (nI 0)) 18 (4 * i + e) 7 (nI d)).1 22 0 6 = μ.1 22 0 6 from (wI_o (by omega)).trans ((wI_o (by omega)).trans (so (by omega))), show (0 : Int32).toNatClampNeg = 0 from rfl,
      show (wI (wI (wI μs 18 (4 * i + e) 8 (nI 0)) 18 (4 * i + e) 7 (nI d)) 18 (4 * i + e) 0 (μ.1 22 0 6)).1 21 (4 * i + e) 0 = μs.1 21 (4 * i + e) 0 from (wI_o (by omega)).trans ((wI_o (by omega)).trans (wI_o (by omega)))]
    -- the pc that comes next
    obtain ⟨y, hy, y1, y2⟩ : ∃ y : Nat, y < cnt ∧ μ.1 22 0 6 = nI y ∧ (if ν.1 26 0 19 = (-1 : Int32) then (bnd (fX13_nextAddress 0 (nI e) (wI (wI (wI ν 27 0 (560 + 35 * e + (8 + 1)) (nI 0)) 27 0 (560 + 35 * e + (29 + 0)) (μs.1 21 (4 * i + e) 0 + 1)) 27 0 (560 + 35 * e + (7 + 1)) (nI d))) fun x25 μ24 => bnd (fX13_set 0 (nI e) 1 x25 μ24) fun _ μ21 => some ((), μ21))
        else (bnd (fX13_set 0 (nI e) 1 (ν.1 26 0 19) (wI (wI (wI ν 27 0 (560 + 35 * e + (8 + 1)) (nI 0)) 27 0 (560 + 35 * e + (29 + 0)) (μs.1 21 (4 * i + e) 0 + 1)) 27 0 (560 + 35 * e + (7 + 1)) (nI d))) fun _ μ21 => some ((), μ21))) =
        some ((), wI (wI (wI (wI ν 27 0 (560 + 35 * e + (8 + 1)) (nI 0)) 27 0 (560 + 35 * e + (29 + 0)) (μs.1 21 (4 * i + e) 0 + 1)) 27 0 (560 + 35 * e + (7 + 1)) (nI d)) 27 0 (560 + 35 * e + (0 + 1)) (nI y)) := by
      rcases hx' with ⟨q1, q2⟩ | ⟨y, hy, q1, q2⟩
      · refine ⟨nx', hx, q2, ?_⟩
        have hna := hn (wI (wI (wI ν 27 0 (560 + 35 * e + (8 + 1)) (nI 0)) 27 0 (560 + 35 * e + (29 + 0)) (μs.1 21 (4 * i + e) 0 + 1)) 27 0 (560 + 35 * e + (7 + 1)) (nI d)) (by
          rw [tN_o (by omega), tN_o (by omega), tN_o (by omega)]
          exact (hE.2.2.1 0 (by decide)).trans hpcμ) (fun f hf => by
          rw [tN_o (by omega), tN_o (by omega), tN_o (by omega)]
          exact hm' 27 0 _ (by unfold WM; omega)) (by
          rw [tN_o (by omega), tN_o (by omega), tN_o (by omega)]
          exact hm' 27 0 _ (by unfold WM; omega))
        rw [if_pos q1, hna, bnd_some, e1, bnd_some]
      · refine ⟨y, hy, q2, ?_⟩
        rw [q1, if_neg (nI_m1 (by omega)), e1, bnd_some]
    have E4 := relE_w (k := 0) (v := nI y) (by decide) (fun q => by omega) (fun q => by omega) (fun q => by omega) E3
    rw [y1, y2]
    refine ⟨1, _, _, rfl, rfl, ⟨?_, h2.trans hν.1⟩, ?_, ?_, ?_, ⟨y, hy, wI_same⟩, fun b hb => ?_, ⟨?_, ?_⟩, fun q hq => ?_, wok_congr (fun n _ => by rw [wI_o (by omega), wI_o (by omega), wI_o (by omega), wI_o (by omega)]) hp.2.1, Or.inr ⟨rfl, ?_⟩⟩
    · exact (show μs.2 = μa.2 from s2.trans (h1.trans hμ.1))
    · exact fr_t (fr_t (fr_t (fr_t fs (Or.inl ⟨rfl, rfl, by decide⟩)) (Or.inl ⟨rfl, rfl, by decide⟩)) (Or.inl ⟨rfl, rfl, by decide⟩)) (Or.inr (Or.inl ⟨rfl, rfl⟩))
    · have w9 : ∀ f, f < 35 → WV e 27 0 (560 + 35 * e + f) := fun f hf => Or.inl (Or.inl ⟨rfl, rfl, Or.inl ⟨by omega, by omega⟩⟩)
      exact fr_v (fr_v (fr_v (fr_v fv (w9 _ (by decide))) (w9 _ (by decide))) (w9 _ (by decide))) (w9 _ (by decide))
    · rw [wI_comm (μ := wI (wI μs 18 (4 * i + e) 8 (nI 0)) 18 (4 * i + e) 7 (nI d)) (by omega), wI_comm (μ := wI μs 18 (4 * i + e) 8 (nI 0)) (by omega)]
      exact E4
    · rw [tN_o (by omega), tN_o (by omega), tN_o (by omega), tN_o (by omega), wI_o (by omega), wI_o (by omega), wI_o (by omega), wI_o (by omega), so (by omega)]
      exact hmem b hb
    · rw [wI_o (by omega), wI_o (by omega), wI_o (by omega), wI_o (by omega), wI_o (by omega), wI_o (by omega), wI_o (by omega), wI_o (by omega), so (by omega)]
      exact hr1
    · rw [wI_o (by omega), wI_o (by omega), wI_o (by omega), wI_o (by omega), wI_o (by omega), wI_o (by omega), wI_o (by omega), wI_o (by omega), so (by omega)]
      exact hr2
    · rw [wI_o (by omega), wI_o (by omega), wI_o (by omega), wI_o (by omega), wI_o (by omega), wI_o (by omega), wI_o (by omega), wI_o (by omega), apF_congr (ν := ν) (fun n _ => ?_) ?_ ?_]
      · exact pins q hq
      · rw [tN_o (by omega), tN_o (by omega), tN_o (by omega), tN_o (by omega)]
      · rw [tN_o (by omega), tN_o (by omega), tN_o (by omega), tN_o (by omega)]
      · rw [wI_o (by omega), wI_o (by omega), wI_o (by omega), wI_o (by omega)]
    · rw [wI_same, so (by omega), h210, h21]
  · have hm0 : ¬ nI m = 0 := nI_ne0 (by omega) (by omega)
    have n0 : fX13_note 0 (nI e) 1 (wI ν 27 0 (560 + 35 * e + (8 + 1)) (nI m)) = _ := m_note (k := 1) he (by decide)
    have cv : tN (wI ν 27 0 (560 + 35 * e + (8 + 1)) (nI m)) (560 + 35 * e + (29 + 1)) = μs.1 21 (4 * i + e) 1 := by
      rw [tN_o (by omega)]; exact Es2.2.2.2.1 1 (by decide)
    have E2 := relE_c (k := 1) (v := μs.1 21 (4 * i + e) 1 + 1) (by decide) E1
    rw [if_neg hm0, if_pos hm0, n0, cv, bnd_some, if_pos hm0, ckI_at (i := 1) (by decide), ckI_at (i := 1) (by decide), ckZ_ok (Or.inl rfl), show (1 : Int32).toNatClampNeg = 1 from rfl, show (wI μs 18 (4 * i + e) 8 (nI m)).1 21 (4 * i + e) 1 = μs.1 21 (4 * i + e) 1 from wI_o (by omega)]
    refine ⟨0, _, _, rfl, rfl, ⟨?_, h2.trans hν.1⟩, ?_, ?_, E2, ⟨a, ?_, ?_⟩, fun b hb => ?_, ⟨?_, ?_⟩, fun q hq => ?_, wok_congr (fun n _ => by rw [wI_o (by omega), wI_o (by omega)]) hp.2.1, Or.inl ⟨rfl, ?_⟩⟩
    · exact (show μs.2 = μa.2 from s2.trans (h1.trans hμ.1))
    · exact fr_t (fr_t fs (Or.inl ⟨rfl, rfl, by decide⟩)) (Or.inr (Or.inl ⟨rfl, rfl⟩))
    · have w9 : ∀ f, f < 35 → WV e 27 0 (560 + 35 * e + f) := fun f hf => Or.inl (Or.inl ⟨rfl, rfl, Or.inl ⟨by omega, by omega⟩⟩)
      exact fr_v (fr_v fv (w9 _ (by decide))) (w9 _ (by decide))
    · exact ha
    · rw [tN_o (by omega), tN_o (by omega)]
      exact (hE.2.2.1 0 (by decide)).trans hpcμ
    · rw [tN_o (by omega), tN_o (by omega), wI_o (by omega), wI_o (by omega), so (by omega)]
      exact hmem b hb
    · rw [wI_o (by omega), wI_o (by omega), wI_o (by omega), wI_o (by omega), so (by omega)]
      exact hr1
    · rw [wI_o (by omega), wI_o (by omega), wI_o (by omega), wI_o (by omega), so (by omega)]
      exact hr2
    · rw [wI_o (by omega), wI_o (by omega), wI_o (by omega), wI_o (by omega), apF_congr (ν := ν) (fun n _ => ?_) ?_ ?_]
      · exact pins q hq
      · rw [tN_o (by omega), tN_o (by omega)]
      · rw [tN_o (by omega), tN_o (by omega)]
      · rw [wI_o (by omega), wI_o (by omega)]
    · rw [wI_o (by omega), wI_o (by omega), so (by omega), h210, h21]
end
