/-! PARSING: a clause of an engine -/
def sIni (k : Nat) : Int32 := if k = 0 then 1 else if k = 2 then 256 else if k = 4 then -1 else if k = 15 ∨ k = 17 then 32 else if k = 19 ∨ k = 20 then 4 else 0
theorem qs_ini {B : Nat} (hB : 1 ≤ B) {m S : Nat → Int32} (hm : ∀ k, k < 20 → m k = if k = 0 then 1 else clV k) (hS : ∀ k, k < 21 → S k = sIni k) : QS B m S := by
  have g0 : ∀ q, q < 32 → bt 0 q = (decide (q < 16) && grpM 0 0 q) := fun q _ => by rw [bt_0]; unfold grpM; simp
  intro i hi
  match i, hi with
  | 0, _ => exact ⟨hm 0 (by decide), hS 0 (by decide)⟩
  | 1, _ => exact ⟨0, by omega, hS 1 (by decide), hm 1 (by decide)⟩
  | 2, _ => exact ⟨256, by omega, by omega, hS 2 (by decide), hm 4 (by decide)⟩
  | 3, _ => exact Or.inl ⟨hS 4 (by decide), hm 3 (by decide)⟩
  | 4, _ => exact ⟨0, by omega, hS 3 (by decide), hm 2 (by decide)⟩
  | 5, _ => exact ⟨0, 0, by omega, by omega, hS 5 (by decide), hS 6 (by decide), hm 5 (by decide), by rw [hm 6 (by decide)]; exact g0⟩
  | 6, _ => exact ⟨0, 0, by omega, by omega, hS 7 (by decide), hS 8 (by decide), hm 7 (by decide), by rw [hm 8 (by decide)]; exact g0⟩
  | 7, _ => exact ⟨0, 0, by omega, by omega, hS 9 (by decide), hS 10 (by decide), hm 9 (by decide), by rw [hm 10 (by decide)]; exact g0⟩
  | 8, _ => exact ⟨0, by omega, hS 11 (by decide), hm 11 (by decide)⟩
  | 9, _ => exact ⟨0, by omega, hS 12 (by decide), hm 12 (by decide)⟩
  | 10, _ => exact ⟨(hS 13 (by decide)).trans (hm 13 (by decide)).symm, Or.inl (hS 13 (by decide))⟩
  | 11, _ => exact ⟨(hS 14 (by decide)).trans (hm 14 (by decide)).symm, Or.inl (hS 14 (by decide))⟩
  | 12, _ => exact ⟨(hS 16 (by decide)).trans (hm 15 (by decide)).symm, Or.inl (hS 16 (by decide))⟩
  | 13, _ => exact ⟨(hS 18 (by decide)).trans (hm 16 (by decide)).symm, Or.inl (hS 18 (by decide))⟩
  | 14, _ => exact ⟨32, by omega, by omega, hS 15 (by decide), hm 17 (by decide)⟩
  | 15, _ => exact ⟨32, by omega, by omega, hS 17 (by decide), hm 18 (by decide)⟩
  | 16, _ => exact ⟨4, by omega, hS 19 (by decide), hS 20 (by decide), hm 19 (by decide)⟩
  | n + 17, h => exact absurd h (by omega)
def iniM (ν : Mem) (e : Nat) : Mem := wI (wI (wI (wI (wI (wI (wI ν 27 1 (476 + 21 * e + 0) 1) 27 1 (476 + 21 * e + 2) 256) 27 1 (476 + 21 * e + 4) (-1)) 27 1 (476 + 21 * e + 15) 32) 27 1 (476 + 21 * e + 17) 32) 27 1 (476 + 21 * e + 19) 4) 27 1 (476 + 21 * e + 20) 4
theorem ini_o {ν : Mem} {e κ a q : Nat} (h : ¬ (κ = 27 ∧ a = 1 ∧ ∃ k, q = 476 + 21 * e + k ∧ (k = 0 ∨ k = 2 ∨ k = 4 ∨ k = 15 ∨ k = 17 ∨ k = 19 ∨ k = 20))) : (iniM ν e).1 κ a q = ν.1 κ a q := by
  have no : ∀ k, (k = 0 ∨ k = 2 ∨ k = 4 ∨ k = 15 ∨ k = 17 ∨ k = 19 ∨ k = 20) → ¬ (κ = 27 ∧ a = 1 ∧ q = 476 + 21 * e + k) := fun k hk z => h ⟨z.1, z.2.1, k, z.2.2, hk⟩
  unfold iniM
  rw [wI_o (no 20 (by omega)), wI_o (no 19 (by omega)), wI_o (no 17 (by omega)), wI_o (no 15 (by omega)), wI_o (no 4 (by omega)), wI_o (no 2 (by omega)), wI_o (no 0 (by omega))]
theorem ini_at {ν : Mem} {e k : Nat} (hk : k = 0 ∨ k = 2 ∨ k = 4 ∨ k = 15 ∨ k = 17 ∨ k = 19 ∨ k = 20) : (iniM ν e).1 27 1 (476 + 21 * e + k) = sIni k := by
  unfold iniM
  rcases hk with rfl | rfl | rfl | rfl | rfl | rfl | rfl
  · rw [wI_o (by omega), wI_o (by omega), wI_o (by omega), wI_o (by omega), wI_o (by omega), wI_o (by omega), wI_same]; rfl
  · rw [wI_o (by omega), wI_o (by omega), wI_o (by omega), wI_o (by omega), wI_o (by omega), wI_same]; rfl
  · rw [wI_o (by omega), wI_o (by omega), wI_o (by omega), wI_o (by omega), wI_same]; rfl
  · rw [wI_o (by omega), wI_o (by omega), wI_o (by omega), wI_same]; rfl
  · rw [wI_o (by omega), wI_o (by omega), wI_same]; rfl
  · rw [wI_o (by omega), wI_same]; rfl
  · rw [wI_same]; rfl
theorem ckI_0 {α : Type} {o : Option α} : ckI (0 : Int32) 4 o = o := ckI_nI (j := 0) (by decide) (by decide)
/-- the class, behind the engine's number -/
def cEng (F j : Nat) (μ : Mem) : Option (Unit × Mem) := bnd (fX11_expect 0 13 μ) fun _ μ23 => bnd (fX5_takeName F 0 μ23) fun x25 μ24 => lp (fun _ _ _ => none) F (cLoop F) (wI μ24 8 j 1 x25) j 0
def mEng (F : Nat) (x14 : Int32) (μ : Mem) : Option (Unit × Mem) := bnd (fX13_expectWord F 0 31 μ) fun _ μ33 => bnd (fX13_readName F 0 (x14 + (1 : Int32)) μ33) fun _ μ34 => lp (fun _ => none) F (mLoop F x14) μ34
theorem c_has {s k : Nat} {μ : Mem} (hk : k < 4) : fX4_hasEngine s (nI k) μ = some (if μ.1 8 (4 * s + k) 0 = 0 then 0 else 1, μ) := by
  unfold fX4_hasEngine
  simp only [jn_eq]
  rw [if_neg (nI_pos (by omega)), if_neg (show ¬ (4 : Int32) ≤ nI k from fun z => absurd ((nI_leI (a := 4) (by decide) (by omega)).1 z) (by omega)), ckI_nI hk (by decide), nI_clamp (n := k) (by omega)]
  by_cases g : μ.1 8 (4 * s + k) 0 = 0
  · rw [if_pos g, if_pos g, ckZ_ok (Or.inl rfl)]
  · rw [if_neg g, if_neg g, ckZ_ok (Or.inr rfl)]
/-- the class's way, from what its first question answers and where the number leads -/
theorem c_engA {N n t s k fu : Nat} {c : Nat → Int32} {μ : Mem} (hn : n ≤ 1000) (h : CT N n c μ) (ht : t < n) (h6 : μ.1 2 0 6 = nI t) (q : syA N n c t = 3) (e4 : μ.1 4 2 t = nI k) (hk : k < 4) (hs : s < 2) (hr : μ.2.1 10 0 1 = s) (hd : μ.1 8 (4 * s + k) 0 = 0) :
    fX5_readEngine fu 0 μ = cEng fu (4 * s + k) (wI (wI μ 2 0 6 (nI (t + 1))) 8 (4 * s + k) 0 1) := by
  have en : fX11_takeNumber 0 0 3 μ = some (nI k, wI μ 2 0 6 (nI (t + 1))) := c_num (lo := 0) (hi := 3) hn h ht h6 q e4 (by omega) (by omega) (by decide)
  have eb := c_below hn h (by omega) h6 (fun _ => e4) (by omega : k < 2 ^ 31)
  rw [if_pos (show syA N n c t = 3 ∧ k < 4 from ⟨q, hk⟩)] at eb
  unfold fX5_readEngine
  simp only [jn_eq, nm_eq]
  rw [eb, bnd_some, if_neg (show ¬ (1 : Int32) = 0 by decide), hr, ckB_ok hs]
  unfold fX11_number
  rw [h6, ckI_nI (show t < 1001 by omega) (by decide), nI_clamp (n := t) (by omega), e4, bnd_some, c_has hk, bnd_some, if_pos hd, if_pos (show (0 : Int32) = 0 from rfl), hr, ckB_ok hs, en, bnd_some, ckI_nI hk (by decide), ckZ_ok (Or.inr rfl), nI_clamp (n := k) (by omega)]
  rfl
theorem c_engB {N n t s k fu : Nat} {c : Nat → Int32} {μ μ' : Mem} (hn : n ≤ 1000) (h : CT N n c μ) (ht : t < n) (h6 : μ.1 2 0 6 = nI t) (q : syA N n c t = 3) (e4 : μ.1 4 2 t = nI k) (hk : k < 4) (hs : s < 2) (hr : μ.2.1 10 0 1 = s) (hd : ¬ μ.1 8 (4 * s + k) 0 = 0) (f : fX11_fail 0 4 μ = some ((), μ')) (hr' : μ'.2.1 10 0 1 = s) (d : DD N n c μ') :
    fX5_readEngine fu 0 μ = cEng fu (4 * s) (wI μ' 8 (4 * s) 0 1) := by
  have eb := c_below hn h (by omega) h6 (fun _ => e4) (by omega : k < 2 ^ 31)
  rw [if_pos (show syA N n c t = 3 ∧ k < 4 from ⟨q, hk⟩)] at eb
  unfold fX5_readEngine
  simp only [jn_eq, nm_eq]
  rw [eb, bnd_some, if_neg (show ¬ (1 : Int32) = 0 by decide), hr, ckB_ok hs]
  unfold fX11_number
  rw [h6, ckI_nI (show t < 1001 by omega) (by decide), nI_clamp (n := t) (by omega), e4, bnd_some, c_has hk, bnd_some, if_neg hd, if_neg (show ¬ (1 : Int32) = 0 by decide), f, bnd_some, hr', ckB_ok hs, d_number d, bnd_some, ckI_0, ckZ_ok (Or.inr rfl)]
  rfl
theorem c_engC {N n t s k fu : Nat} {c : Nat → Int32} {μ μ' : Mem} (hn : n ≤ 1000) (h : CT N n c μ) (ht : t ≤ n) (h6 : μ.1 2 0 6 = nI t) (e4 : syA N n c t = 3 → μ.1 4 2 t = nI k) (hk : k < 2 ^ 31) (hq : ¬ (syA N n c t = 3 ∧ k < 4)) (hs : s < 2) (hr : μ.2.1 10 0 1 = s) (en : fX11_takeNumber 0 0 3 μ = some (0, μ')) :
    fX5_readEngine fu 0 μ = cEng fu (4 * s) (wI μ' 8 (4 * s) 0 1) := by
  have eb := c_below hn h ht h6 e4 hk
  rw [if_neg hq] at eb
  unfold fX5_readEngine
  simp only [jn_eq, nm_eq]
  rw [eb, bnd_some, if_pos (show (0 : Int32) = 0 from rfl), hr, ckB_ok hs, en, bnd_some, ckI_0, ckZ_ok (Or.inr rfl)]
  rfl
theorem d_eng {N n F j : Nat} {c : Nat → Int32} {μ : Mem} (d : DD N n c μ) : cEng (F + 1) j μ = some ((), wI μ 8 j 1 0) := by
  have d' : DD N n c (wI μ 8 j 1 0) := dd_c d (fun κ a q z => wI_o (by omega)) rfl
  unfold cEng
  rw [d_expect d, bnd_some, d_name d, bnd_some, lp_succ]
  exact cloop_d (k := 0) d' _
