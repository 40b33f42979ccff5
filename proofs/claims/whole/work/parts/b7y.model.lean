/-! THE MODEL'S TEXT OF AN INSTRUCTION -/
/-- the model has written the text t -/
def wM (t : List Int32) (μ : Mem) : Mem := (fun a b k => if a = 28 ∧ b = 13 ∧ k < t.length then t.getD k 0 else if a = 26 ∧ b = 0 ∧ k = 41 then nI t.length else μ.1 a b k, μ.2.1, μ.2.2)
theorem wM_o {t : List Int32} {μ : Mem} {a b k : Nat} (h : ¬ (a = 28 ∧ b = 13)) (h2 : ¬ (a = 26 ∧ b = 0 ∧ k = 41)) : (wM t μ).1 a b k = μ.1 a b k := by
  show (if a = 28 ∧ b = 13 ∧ k < t.length then t.getD k 0 else if a = 26 ∧ b = 0 ∧ k = 41 then nI t.length else μ.1 a b k) = _
  rw [if_neg (fun q => h ⟨q.1, q.2.1⟩), if_neg h2]
theorem wM_c {t : List Int32} {μ : Mem} : (wM t μ).1 26 0 41 = nI t.length := by
  show (if 26 = 28 ∧ 0 = 13 ∧ 41 < t.length then t.getD 41 0 else if 26 = 26 ∧ 0 = 0 ∧ 41 = 41 then nI t.length else μ.1 26 0 41) = _
  rw [if_neg (by omega), if_pos ⟨rfl, rfl, rfl⟩]
theorem wM_at {t : List Int32} {μ : Mem} {k : Nat} (h : k < t.length) : (wM t μ).1 28 13 k = t.getD k 0 := if_pos ⟨rfl, rfl, h⟩
theorem wM_nil {μ : Mem} : wI μ 26 0 41 0 = wM [] μ := by
  refine Prod.ext (funext fun a => funext fun b => funext fun k => ?_) rfl
  show (if a = 26 ∧ b = 0 ∧ k = 41 then (0 : Int32) else μ.1 a b k) = if a = 28 ∧ b = 13 ∧ k < 0 then ([] : List Int32).getD k 0 else if a = 26 ∧ b = 0 ∧ k = 41 then nI 0 else μ.1 a b k
  rw [if_neg (show ¬ (a = 28 ∧ b = 13 ∧ k < 0) from fun q => absurd q.2.2 (Nat.not_lt_zero k))]
  rfl
theorem wM_snoc {t : List Int32} {v : Int32} {μ : Mem} : wI (wI (wM t μ) 28 13 t.length v) 26 0 41 (nI (t.length + 1)) = wM (t ++ [v]) μ := by
  refine Prod.ext (funext fun a => funext fun b => funext fun k => ?_) rfl
  show (if a = 26 ∧ b = 0 ∧ k = 41 then nI (t.length + 1) else if a = 28 ∧ b = 13 ∧ k = t.length then v else if a = 28 ∧ b = 13 ∧ k < t.length then t.getD k 0 else if a = 26 ∧ b = 0 ∧ k = 41 then nI t.length else μ.1 a b k) = if a = 28 ∧ b = 13 ∧ k < (t ++ [v]).length then (t ++ [v]).getD k 0 else if a = 26 ∧ b = 0 ∧ k = 41 then nI (t ++ [v]).length else μ.1 a b k
  have el : (t ++ [v]).length = t.length + 1 := by rw [List.length_append]; rfl
  rw [el]
  by_cases h1 : a = 26 ∧ b = 0 ∧ k = 41
  · rw [if_pos h1, if_neg (by omega), if_pos h1]
  · rw [if_neg h1]
    by_cases h2 : a = 28 ∧ b = 13
    · by_cases h3 : k = t.length
      · rw [if_pos ⟨h2.1, h2.2, h3⟩, if_pos ⟨h2.1, h2.2, by omega⟩, h3, List.getD_eq_getElem?_getD, List.getElem?_concat_length]
        rfl
      · rw [if_neg (fun q => h3 q.2.2)]
        by_cases h4 : k < t.length
        · rw [if_pos ⟨h2.1, h2.2, h4⟩, if_pos ⟨h2.1, h2.2, by omega⟩, List.getD_eq_getElem?_getD, List.getD_eq_getElem?_getD, List.getElem?_append_left h4]
        · rw [if_neg (fun q => h4 q.2.2), if_neg h1, if_neg (fun q => by omega), if_neg h1]
    · rw [if_neg (fun q => h2 ⟨q.1, q.2.1⟩), if_neg (fun q => h2 ⟨q.1, q.2.1⟩), if_neg h1, if_neg (fun q => h2 ⟨q.1, q.2.1⟩), if_neg h1]
/-- one byte more -/
theorem m_char {α : Type} {t : List Int32} {v : Int32} {μ : Mem} {k : Mem → Option α} (h : t.length < 80) : ckI ((wM t μ).1 26 0 41) (mil.getD 13 0) (nm (wI (wM t μ) 28 13 ((wM t μ).1 26 0 41).toNatClampNeg v) fun μ9 => nm (wI μ9 26 0 41 ((μ9.1 26 0 41) + (1 : Int32))) k) = k (wM (t ++ [v]) μ) := by
  rw [wM_c, ckI_nI (show t.length < mil.getD 13 0 from h) (by decide), nI_clamp (by omega), nm_eq, nm_eq, show (wI (wM t μ) 28 13 t.length v).1 26 0 41 = nI t.length from (wI_o (by omega)).trans wM_c, nI_1, wM_snoc]
def wrBd (i : Nat) (j30 : Mem → Int32 → Option (Unit × Mem)) (μ2 : Mem) (x3 : Int32) : Option (Unit × Mem) :=
  bnd (fJ0_length_8abf5 i μ2) fun x5 μ4 =>
  if x5 ≤ x3 then (
    some ((), μ4)
  ) else (
    bnd (fJ0_charAt_5068e i x3 μ4) fun x8 μ7 =>
    ckI (μ4.1 26 0 41) (mil.getD 13 0) <|
    nm (wI μ7 28 13 (μ4.1 26 0 41).toNatClampNeg x8) fun μ9 =>
    nm (wI μ9 26 0 41 ((μ9.1 26 0 41) + (1 : Int32))) fun μ10 =>
    nm (x3 + (1 : Int32)) fun x11 =>
    j30 μ10 x11
  )
theorem wr_eq {fu i : Nat} {μ : Mem} : fX13_write_ fu 0 i μ = if (μ.1 26 0 41) ≤ 0 then lp (fun _ _ => none) fu (wrBd i) μ 0 else ckI (μ.1 26 0 41) (mil.getD 13 0) (nm (wI μ 28 13 (μ.1 26 0 41).toNatClampNeg (32 : Int32)) fun μ13 => nm (wI μ13 26 0 41 ((μ13.1 26 0 41) + (1 : Int32))) fun μ14 => lp (fun _ _ => none) fu (wrBd i) μ14 0) := rfl
theorem wr_loop (i fu : Nat) (μ : Mem) (j q : Nat) (t : List Int32) (hq : j + q = txN.getD i 0) (ht : t.length + q ≤ 80) : lp (fun _ _ => none) (fu + 13) (wrBd i) (wM t μ) (nI j) = some ((), wM (t ++ (tXL i).drop j) μ) := by
  have hl := tx_len i
  have eL : ∀ μ, fJ0_length_8abf5 i μ = some (nI (txN.getD i 0), μ) := fun _ => rfl
  have h0 : ∀ (f : Mem → Int32 → Option (Unit × Mem)) (j : Nat) (t : List Int32), j = txN.getD i 0 → wrBd i f (wM t μ) (nI j) = some ((), wM (t ++ (tXL i).drop j) μ) := by
    intro f j t hj
    unfold wrBd
    rw [eL, bnd_some, if_pos (show nI (txN.getD i 0) ≤ nI j from (nI_leI (by omega) (by omega)).2 (by omega)), List.drop_eq_nil_of_le (by rw [txL_len]; omega), List.append_nil]
  refine lp_ind (P := fun d (f : Mem → Int32 → Option (Unit × Mem)) => ∀ (j q : Nat) (t : List Int32), j + q = txN.getD i 0 → q ≤ d → t.length + q ≤ 80 → f (wM t μ) (nI j) = some ((), wM (t ++ (tXL i).drop j) μ)) (fun f j q t hq hd ht => ?_) (fun d f ih j q t hq hd ht => ?_) 12 fu j q t hq (by omega) ht
  · exact h0 f j t (by omega)
  · obtain _ | q := q
    · exact h0 f j t (by omega)
    · have hj : j < (tXL i).length := by rw [txL_len]; omega
      have e : (tXL i).drop j = (tXL i).getD j 0 :: (tXL i).drop (j + 1) := by
        rw [List.drop_eq_getElem_cons hj, List.getD_eq_getElem?_getD, List.getElem?_eq_getElem hj]
        rfl
      unfold wrBd
      rw [eL, bnd_some, if_neg (show ¬ nI (txN.getD i 0) ≤ nI j from fun z => absurd ((nI_leI (by omega) (by omega)).1 z) (by omega)), f_charAt (by omega) (by omega), bnd_some, m_char (by omega), nm_eq, nI_1, ih (j + 1) q (t ++ [txC i j]) (by omega) (by omega) (by rw [List.length_append]; show t.length + 1 + q ≤ 80; omega), e, txC_L (by omega), List.append_assoc]
      rfl
theorem wr_loop0 {i fu : Nat} {μ : Mem} {t : List Int32} (ht : t.length ≤ 68) : lp (fun _ _ => none) (fu + 13) (wrBd i) (wM t μ) 0 = some ((), wM (t ++ tXL i) μ) := wr_loop i fu μ 0 (txN.getD i 0) t (Nat.zero_add _) (by have := tx_len i; omega)
theorem m_write0 {i fu : Nat} {μ : Mem} : fX13_write_ (fu + 13) 0 i (wM [] μ) = some ((), wM (tXL i) μ) := by
  rw [wr_eq, if_pos (by rw [wM_c]; decide), wr_loop0 (Nat.zero_le _)]
  rfl
theorem m_write {i fu : Nat} {μ : Mem} {t : List Int32} (h0 : 0 < t.length) (hl : t.length ≤ 67) : fX13_write_ (fu + 13) 0 i (wM t μ) = some ((), wM (t ++ 32 :: tXL i) μ) := by
  rw [wr_eq, if_neg (by rw [wM_c]; exact fun z => absurd ((nI_leI (a := t.length) (b := 0) (by omega) (by decide)).1 z) (by omega)), m_char (by omega), wr_loop0 (by rw [List.length_append]; show t.length + 1 ≤ 68; omega), List.append_assoc]
  rfl
theorem dg_val : ∀ m : Nat, m < 100 → (48 : Int32) + (nI m - nI m / (10 : Int32) * (10 : Int32)) = nI (48 + m % 10) ∧ nI m / (10 : Int32) = nI (m / 10) ∧ (m < 10 → nI m ≤ 9) ∧ (¬ m < 10 → ¬ nI m ≤ 9) := by decide +kernel
theorem m_dig1 {rec : Nat → Nat → Int32 → Mem → Option (Unit × Mem)} {m : Nat} {t : List Int32} {μ : Mem} (hm : m < 10) (ht : t.length < 80) : sX13_digits rec 0 (nI m) (wM t μ) = some ((), wM (t ++ [nI (48 + m)]) μ) := by
  obtain ⟨h1, -, h3, -⟩ := dg_val m (by omega)
  unfold sX13_digits
  simp only [jn_eq]
  rw [if_pos (h3 hm), ckD_ok (by decide), m_char ht, h1, Nat.mod_eq_of_lt hm]
theorem m_digits {m : Nat} {t : List Int32} {μ : Mem} (hm : m < 100) (ht : t.length ≤ 78) : fgX13d 12 0 0 (nI m) (wM t μ) = some ((), wM (t ++ dgL m) μ) := by
  show sX13_digits (fgX13d 11) 0 (nI m) (wM t μ) = _
  by_cases h : m < 10
  · rw [m_dig1 h (by omega), dgL_1 h]
  · obtain ⟨h1, h2, -, h4⟩ := dg_val m hm
    unfold sX13_digits
    simp only [jn_eq]
    rw [if_neg (h4 h), ckD_ok (by decide), h2, show fgX13d 11 0 0 (nI (m / 10)) (wM t μ) = sX13_digits (fgX13d 10) 0 (nI (m / 10)) (wM t μ) from rfl, m_dig1 (by omega) (by omega), bnd_some, ckD_ok (by decide), m_char (by rw [List.length_append]; show t.length + 1 < 80; omega), ← h2, h1, dgL_2 (by omega) hm, List.append_assoc]
    rfl
theorem m_num {m fu : Nat} {t : List Int32} {μ : Mem} (hm : m < 100) (h0 : 0 < t.length) (hl : t.length ≤ 67) : fX13_writeNumber (fu + 13) 0 (nI m) (wM t μ) = some ((), wM (t ++ flt (pN (nI m))) μ) := by
  unfold fX13_writeNumber
  rw [m_write h0 hl, bnd_some, show (32 :: tXL 13 : List Int32) = [32] from rfl, m_digits hm (by rw [List.length_append]; show t.length + 1 ≤ 78; omega), bnd_some, List.append_assoc, flt_pN hm]
  rfl
theorem m_word {i j fu : Nat} {t : List Int32} {μ : Mem} (hj : ¬ j = 0) (e : i = syT.getD j 0) (h0 : 0 < t.length) (hl : t.length ≤ 67) : fX13_write_ (fu + 13) 0 i (wM t μ) = some ((), wM (t ++ flt (pW j)) μ) := by
  rw [m_write h0 hl, flt_pW hj, e]
theorem m_if0 {i fu : Nat} {μ : Mem} : fX13_writeIf fu 0 0 i μ = some ((), μ) := by
  unfold fX13_writeIf
  rw [jn_eq, if_pos rfl]
theorem m_if1 {i j fu : Nat} {t : List Int32} {μ : Mem} (hj : ¬ j = 0) (e : i = syT.getD j 0) (h0 : 0 < t.length) (hl : t.length ≤ 67) : fX13_writeIf (fu + 13) 0 1 i (wM t μ) = some ((), wM (t ++ flt (pW j)) μ) := by
  unfold fX13_writeIf
  rw [jn_eq, if_neg (by decide), m_word hj e h0 hl, bnd_some]
theorem pl_tx : ∀ c, c < 9 → ¬ plS.getD c 0 = 0 ∧ strAt 2 c = syT.getD (plS.getD c 0) 0 := by decide
theorem m_pl {α : Type} {c s fu : Nat} {t : List Int32} {μ : Mem} {k : Unit → Mem → Option α} (hp : isPl c s) (h0 : 0 < t.length) (hl : t.length ≤ 67) : ckI (nI c) (stl.getD 2 0) (bnd (fX13_write_ (fu + 13) 0 (strAt 2 (nI c).toNatClampNeg) (wM t μ)) k) = k () (wM (t ++ flt (pW s)) μ) := by
  obtain ⟨hc, rfl⟩ := hp
  obtain ⟨h1, h2⟩ := pl_tx c hc
  rw [ckI_nI (show c < stl.getD 2 0 from hc) (by decide), nI_clamp (by omega), m_word h1 h2 h0 hl, bnd_some]
theorem len_W (t : List Int32) (j : Nat) : (t ++ flt (pW j)).length ≤ t.length + 9 ∧ t.length ≤ (t ++ flt (pW j)).length := by
  rw [List.length_append]
  have := flt_pW_le j
  omega
theorem len_N (t : List Int32) {m : Nat} (h : m < 100) : (t ++ flt (pN (nI m))).length ≤ t.length + 3 ∧ t.length ≤ (t ++ flt (pN (nI m))).length := by
  rw [List.length_append]
  have := flt_pN_le (Or.inr ⟨m, h, rfl⟩ : NOK (nI m))
  omega
theorem jx_tx : ∀ c, c ≤ 7 → ¬ c = 0 → ¬ 42 + c = 0 ∧ strAt 1 c = syT.getD (42 + c) 0 := by decide
