/-! PARSING: a label ahead of an instruction -/
def IL (N n : Nat) (c : Nat → Int32) (s : Nat) (M : Md) (t : Nat) (μ ν : Mem) : Prop :=
  LC N n c M.1 μ ∧ μ.2.1 10 0 1 = s ∧ SY μ ∧ ∃ m cnt, 3 * m ≤ tkP c N t ∧ NM N c M.1 M.2 cnt m ν ∧ PD s M.2 cnt μ (TT M.1 ν) ∧ EX M (TT M.1 ν) ∧ (cnt < 32 → LBL N n c (cnt + 1) μ ν)
def labM (ν : Mem) (cnt : Nat) (x l : Int32) : Mem := if cnt < 32 then wI (wI ν 28 8 cnt x) 28 9 cnt l else ν
theorem lab_o {ν : Mem} {cnt κ a q : Nat} {x l : Int32} (h : ¬ (κ = 28 ∧ (a = 8 ∨ a = 9) ∧ q = cnt)) : (labM ν cnt x l).1 κ a q = ν.1 κ a q := by
  unfold labM
  split
  · rw [wI_o (by omega), wI_o (by omega)]
  · rfl
theorem lab_2 {ν : Mem} {cnt : Nat} {x l : Int32} : (labM ν cnt x l).2 = ν.2 := by
  unfold labM
  split
  · rfl
  · rfl
def defD (μ : Mem) (L t cnt : Nat) : Mem := wI (wI (wI μ 11 0 L (nI t)) 11 1 L (nI cnt)) 10 0 3 (nI (L + 1))
theorem lm_le {N n cnt L : Nat} {c : Nat → Int32} {lt la lb ll : Nat → Nat} (h : LM N n cnt L c lt la lb ll) : L ≤ cnt := by
  have k : ∀ i, i < L → i ≤ la i := by
    intro i
    induction i with
    | zero => intro _; exact Nat.zero_le _
    | succ i ih =>
      intro hi
      have a := ih (by omega)
      have b := h.2.1 i (i + 1) (by omega) hi
      omega
  obtain _ | L := L
  · exact Nat.zero_le _
  · have a := k L (by omega)
    have b := h.1 L (by omega)
    omega
theorem lbl_ext0 {N n cnt : Nat} {c : Nat → Int32} {μ ν : Mem} {x : Nat} (h : LBL N n c cnt μ ν) (hc : cnt < 32) : LBL N n c (cnt + 1) μ (labM ν cnt (nI x) 0) := fun z => by
  obtain ⟨L, lt, la, lb, ll, l1, l2, l3⟩ := h z
  refine ⟨L, lt, la, fun a => if a = cnt then x else lb a, fun a => if a = cnt then 0 else ll a, l1, fun a ha => ?_, fun i hi => by have := l3.1 i hi; omega, l3.2.1, l3.2.2.1, fun a ha => ?_⟩
  · unfold labM
    rw [if_pos hc]
    by_cases e : a = cnt
    · subst e
      simp only [if_pos rfl, if_true]
      exact ⟨(wI_o (by omega)).trans wI_same, wI_same, Or.inl trivial⟩
    · simp only [if_neg e]
      obtain ⟨a1, a2, a3⟩ := l2 a (by omega)
      exact ⟨by rw [wI_o (by omega), wI_o (by omega)]; exact a1, by rw [wI_o (by omega), wI_o (by omega)]; exact a2, a3⟩
  · by_cases e : a = cnt
    · subst e
      simp only [if_pos rfl, if_true]
      exact Or.inl ⟨trivial, fun i hi => by have := l3.1 i hi; omega⟩
    · simp only [if_neg e]
      exact l3.2.2.2 a (by omega)
theorem lbl_ext1 {N n cnt L t : Nat} {c : Nat → Int32} {lt la lb ll : Nat → Nat} {μ ν : Mem} (hT : TP N n c) (l1 : LT n L lt la μ) (l2 : MT N cnt c lb ll ν) (l3 : LM N n cnt L c lt la lb ll) (hc : cnt < 32) (ht : t < n) : LBL N n c (cnt + 1) (defD μ L t cnt) (labM ν cnt (nI (tkP c N t)) (nI (tkE c N (tkP c N t) - tkP c N t))) := fun z => by
  have le := lm_le l3
  refine ⟨L + 1, fun i => if i = L then t else lt i, fun i => if i = L then cnt else la i, fun a => if a = cnt then tkP c N t else lb a, fun a => if a = cnt then tkE c N (tkP c N t) - tkP c N t else ll a, ⟨wI_same, by omega, fun i hi => ?_⟩, fun a ha => ?_, fun i hi => ?_, fun i k hk hl => ?_, fun i hi => ?_, fun a ha => ?_⟩
  · unfold defD
    by_cases e : i = L
    · subst e
      simp only [if_pos rfl, if_true]
      exact ⟨by rw [wI_o (by omega), wI_o (by omega), wI_same], ht, by rw [wI_o (by omega), wI_same], by omega⟩
    · simp only [if_neg e]
      obtain ⟨a1, a2, a3, a4⟩ := l1.2.2 i (by omega)
      exact ⟨by rw [wI_o (by omega), wI_o (by omega), wI_o (by omega)]; exact a1, a2, by rw [wI_o (by omega), wI_o (by omega), wI_o (by omega)]; exact a3, a4⟩
  · unfold labM
    rw [if_pos hc]
    by_cases e : a = cnt
    · subst e
      simp only [if_pos rfl, if_true]
      exact ⟨(wI_o (by omega)).trans wI_same, wI_same, Or.inr ⟨hT.2.2.1 t ht, trivial⟩⟩
    · simp only [if_neg e]
      obtain ⟨a1, a2, a3⟩ := l2 a (by omega)
      exact ⟨by rw [wI_o (by omega), wI_o (by omega)]; exact a1, by rw [wI_o (by omega), wI_o (by omega)]; exact a2, a3⟩
  · by_cases e : i = L
    · simp only [if_pos e]; omega
    · simp only [if_neg e]
      have := l3.1 i (by omega); omega
  · by_cases e : k = L
    · simp only [if_pos e, if_neg (show ¬ i = L by omega)]
      exact l3.1 i (by omega)
    · simp only [if_neg e, if_neg (show ¬ i = L by omega)]
      exact l3.2.1 i k hk (by omega)
  · by_cases e : i = L
    · simp only [if_pos e]; exact ht
    · simp only [if_neg e]; exact l3.2.2.1 i (by omega)
  · by_cases e : a = cnt
    · subst e
      simp only [if_pos rfl, if_true]
      exact Or.inr ⟨L, by omega, if_pos rfl, by simp only [if_true], by simp only [if_true]⟩
    · simp only [if_neg e]
      rcases l3.2.2.2 a (by omega) with ⟨w1, w2⟩ | ⟨i, i1, i2, i3, i4⟩
      · refine Or.inl ⟨w1, fun i hi => ?_⟩
        by_cases e' : i = L
        · rw [if_pos e']; omega
        · rw [if_neg e']; exact w2 i (by omega)
      · exact Or.inr ⟨i, by omega, by rw [if_neg (by omega)]; exact i2, by rw [if_neg (by omega)]; exact i3, by rw [if_neg (by omega)]; exact i4⟩
/-- the class notes a label -/
theorem c_define {N n t L s cnt : Nat} {c : Nat → Int32} {lt la : Nat → Nat} {μ : Mem} (hT : TP N n c) (h : CT N n c μ) (ht : t < n) (h6 : μ.1 2 0 6 = nI t) (hL : LT n L lt la μ) (hr : μ.2.1 10 0 1 = s) (hs : s < 2) (h5 : μ.1 5 s 0 = nI cnt) (hk : lkG c N lt la (tkP c N t) L 0 = none) (fu : Nat) :
    fX5_defineLabel (fu + 1001) 0 μ = some ((), if L < 32 then defD μ L t cnt else μ) := by
  have hl := hL.2.1
  unfold fX5_defineLabel
  simp only [jn_eq, nm_eq]
  rw [c_labelAddress hT h ht h6 hL, bnd_some, hk, if_pos (show opN none = -1 from rfl), hL.1]
  by_cases g : L < 32
  · rw [if_neg (show ¬ (32 : Int32) ≤ nI L from fun z => absurd ((nI_leI (a := 32) (by decide) (by omega)).1 z) (by omega)), ckI_nI g (by decide), nI_clamp (n := L) (by omega), h6, if_pos g]
    have e1 : (wI μ 11 0 L (nI t)).1 10 0 3 = nI L := (wI_o (by omega)).trans hL.1
    have e2 : (wI (wI μ 11 0 L (nI t)) 11 1 L (nI cnt)).1 10 0 3 = nI L := (wI_o (by omega)).trans e1
    show ckB (μ.2.1 10 0 1) 2 _ = _
    rw [hr, ckB_ok hs, e1, ckI_nI g (by decide), nI_clamp (n := L) (by omega), show (wI μ 11 0 L (nI t)).1 5 ((wI μ 11 0 L (nI t)).2.1 10 0 1) 0 = nI cnt from by show (wI μ 11 0 L (nI t)).1 5 (μ.2.1 10 0 1) 0 = _; rw [hr, wI_o (by omega)]; exact h5, e2, nI_1]
    rfl
  · rw [if_pos (show (32 : Int32) ≤ nI L from (nI_leI (a := 32) (by decide) (by omega)).2 (by omega)), if_neg g]
theorem c_defineF {N n t L a : Nat} {c : Nat → Int32} {lt la : Nat → Nat} {μ μ' : Mem} (hT : TP N n c) (h : CT N n c μ) (ht : t < n) (h6 : μ.1 2 0 6 = nI t) (hL : LT n L lt la μ) (hk : lkG c N lt la (tkP c N t) L 0 = some a) (ha : a ≤ 32) (f : fX11_fail 0 4 μ = some ((), μ')) (fu : Nat) :
    fX5_defineLabel (fu + 1001) 0 μ = some ((), μ') := by
  unfold fX5_defineLabel
  simp only [jn_eq, nm_eq]
  rw [c_labelAddress hT h ht h6 hL, bnd_some, hk, if_neg (show ¬ opN (some a) = -1 from nI_m1 (by omega)), f, bnd_some]
theorem lkG_le {n L : Nat} {c : Nat → Int32} {N x : Nat} {lt la : Nat → Nat} {μ : Mem} (hL : LT n L lt la μ) {a : Nat} : ∀ d i, i + d = L → lkG c N lt la x d i = some a → a ≤ 32 ∧ ∃ j, j < L ∧ la j = a := by
  intro d
  induction d with
  | zero => intro i _ h; exact absurd h (by simp [lkG])
  | succ d ih =>
    intro i hi h
    rw [lkG] at h
    by_cases g : smT c N x (tkP c N (lt i)) = true
    · rw [if_pos g] at h
      have := Option.some.inj h
      exact ⟨by have := (hL.2.2 i (by omega)).2.2.2; omega, i, by omega, this⟩
    · rw [if_neg g] at h
      exact ih (i + 1) (by omega) h
