/-! THE TEXT OF AN INSTRUCTION: what is appended, what the model writes -/
def tXL (i : Nat) : List Int32 := txI.getD i []
theorem txL_len (i : Nat) : (tXL i).length = txN.getD i 0 := by
  by_cases h : i < 70
  · have q : ∀ i, i < 70 → (txI.getD i []).length = txN.getD i 0 := by decide +kernel
    exact q i h
  · unfold tXL
    rw [List.getD_eq_getElem?_getD, List.getElem?_eq_none (by show 70 ≤ i; omega), List.getD_eq_getElem?_getD, List.getElem?_eq_none (by show 70 ≤ i; omega)]
    rfl
theorem txL_le (i : Nat) : (tXL i).length ≤ 8 := by
  rw [txL_len]
  by_cases h : i < 70
  · have q : ∀ i, i < 70 → txN.getD i 0 ≤ 8 := by decide +kernel
    exact q i h
  · rw [List.getD_eq_getElem?_getD, List.getElem?_eq_none (by show 70 ≤ i; omega)]
    decide
def Asc (x : Int32) : Prop := ∃ m : Nat, m < 128 ∧ x = nI m
theorem txL_asc (i : Nat) : ∀ x ∈ tXL i, Asc x := by
  have q : ∀ l ∈ txI, ∀ x ∈ l, x = nI x.toNatClampNeg ∧ x.toNatClampNeg < 128 := by decide +kernel
  intro x hx
  unfold tXL at hx
  rw [List.getD_eq_getElem?_getD] at hx
  cases hl : txI[i]? with
  | none => rw [hl] at hx; cases hx
  | some l =>
    rw [hl] at hx
    obtain ⟨h1, h2⟩ := q l (List.mem_of_getElem? hl) x hx
    exact ⟨_, h2, h1⟩
theorem chr_asc {x : Int32} (h : Asc x) : ((x &&& 255).toUInt32 % 65536).toInt32 = x := by
  obtain ⟨m, hm, rfl⟩ := h
  exact chr_id m hm
theorem getD_mem {l : List Int32} {j : Nat} (h : j < l.length) : l.getD j 0 ∈ l := by
  rw [List.getD_eq_getElem?_getD, List.getElem?_eq_getElem h]
  exact List.getElem_mem h
theorem txC_L {i j : Nat} (h : j < txN.getD i 0) : txC i j = (tXL i).getD j 0 := chr_asc (txL_asc i _ (getD_mem (by rw [txL_len]; exact h)))
theorem rng_tx {i : Nat} (h : i < 70) : (List.range (txN.getD i 0)).map (txb i) = tXL i := by
  have q : ∀ i, i < 70 → (List.range (txN.getD i 0)).map (txb i) = txI.getD i [] := by decide +kernel
  exact q i h
def dgL (m : Nat) : List Int32 := (List.range (szD m)).map (dgs m)
theorem dgL_1 {m : Nat} (h : m < 10) : dgL m = [nI (48 + m)] := by
  have q : ∀ m, m < 10 → dgL m = [nI (48 + m)] := by decide +kernel
  exact q m h
theorem dgL_2 {m : Nat} (h1 : 10 ≤ m) (h2 : m < 100) : dgL m = [nI (48 + m / 10), nI (48 + m % 10)] := by
  have q : ∀ m, m < 100 → 10 ≤ m → dgL m = [nI (48 + m / 10), nI (48 + m % 10)] := by decide +kernel
  exact q m h2 h1
theorem dgL_le (m : Nat) : (dgL m).length ≤ 2 := by
  unfold dgL szD
  rw [List.length_map, List.length_range]
  split <;> decide
theorem dgL_asc {m : Nat} (h : m < 100) : ∀ x ∈ dgL m, Asc x := by
  have q : ∀ m, m < 100 → ∀ x ∈ dgL m, x = nI x.toNatClampNeg ∧ x.toNatClampNeg < 128 := by decide +kernel
  intro x hx
  obtain ⟨h1, h2⟩ := q m h x hx
  exact ⟨_, h2, h1⟩
/-! the pieces, one text -/
def flt (s : List (Nat × (Nat → Int32))) : List Int32 := s.flatMap fun q => (List.range q.1).map q.2
theorem flt_app (s t : List (Nat × (Nat → Int32))) : flt (s ++ t) = flt s ++ flt t := List.flatMap_append ..
theorem flt_cons (q : Nat × (Nat → Int32)) (t : List (Nat × (Nat → Int32))) : flt (q :: t) = (List.range q.1).map q.2 ++ flt t := rfl
theorem flt_pW0 : flt (pW 0) = [] := rfl
theorem flt_pW {j : Nat} (h : ¬ j = 0) : flt (pW j) = 32 :: tXL (syT.getD j 0) := by
  rw [pW_of h, flt_cons, flt_cons, rng_tx (syT_lt _)]
  show [32] ++ (tXL (syT.getD j 0) ++ []) = _
  rw [List.append_nil]
  rfl
theorem flt_pNm : flt (pN (-1)) = [] := rfl
theorem flt_pN {m : Nat} (h : m < 100) : flt (pN (nI m)) = 32 :: dgL m := by
  rw [pN_of h, flt_cons, flt_cons]
  show [32] ++ (dgL m ++ []) = _
  rw [List.append_nil]
  rfl
theorem flt_pW_le (j : Nat) : (flt (pW j)).length ≤ 9 := by
  by_cases h : j = 0
  · subst h; exact Nat.zero_le _
  · rw [flt_pW h, List.length_cons]
    have := txL_le (syT.getD j 0)
    omega
theorem flt_pN_le {x : Int32} (h : NOK x) : (flt (pN x)).length ≤ 3 := by
  rcases h with rfl | ⟨m, hm, rfl⟩
  · exact Nat.zero_le _
  · rw [flt_pN hm, List.length_cons]
    have := dgL_le m
    omega
theorem asc32 : Asc 32 := ⟨32, by decide, rfl⟩
theorem flt_pW_asc (j : Nat) : ∀ x ∈ flt (pW j), Asc x := by
  by_cases h : j = 0
  · subst h; rw [flt_pW0]; exact fun x hx => absurd hx List.not_mem_nil
  · rw [flt_pW h]
    intro x hx
    rcases List.mem_cons.mp hx with rfl | hx
    · exact asc32
    · exact txL_asc _ x hx
theorem flt_pN_asc {y : Int32} (h : NOK y) : ∀ x ∈ flt (pN y), Asc x := by
  rcases h with rfl | ⟨m, hm, rfl⟩
  · rw [flt_pNm]; exact fun x hx => absurd hx List.not_mem_nil
  · rw [flt_pN hm]
    intro x hx
    rcases List.mem_cons.mp hx with rfl | hx
    · exact asc32
    · exact dgL_asc hm x hx
theorem asc_app {s t : List Int32} (h1 : ∀ x ∈ s, Asc x) (h2 : ∀ x ∈ t, Asc x) : ∀ x ∈ s ++ t, Asc x := fun x hx => (List.mem_append.mp hx).elim (h1 x) (h2 x)
theorem asc_fits {x : Int32} (h : Asc x) : fits .byte (.int x) = true := by
  have q : ∀ m : Nat, m < 128 → fits .byte (.int (nI m)) = true := by decide +kernel
  obtain ⟨m, hm, rfl⟩ := h
  exact q m hm
/-- the operands' text, and the whole -/
noncomputable def opT (a : Nat → Int32) (b : Nat → Nat) : List Int32 := flt (pN (a 1)) ++ (flt (pW (b 2)) ++ (flt (pW (b 3)) ++ (flt (pW (b 4)) ++ flt (pN (a 5)))))
theorem flt_rsI {a : Nat → Int32} {b : Nat → Nat} : flt (rsI a b) = tXL (syT.getD (b 0) 0) ++ (opT a b ++ flt (rs52 a)) := by
  unfold rsI rs12 rs20 rs28 rs36 rs44 opT
  rw [flt_cons, rng_tx (syT_lt _), flt_app, flt_app, flt_app, flt_app, flt_app, List.append_assoc, List.append_assoc, List.append_assoc, List.append_assoc]
theorem flt_rs75 {a : Nat → Int32} (H : NOK (a 7)) : (flt (rs75 a)).length ≤ 12 ∧ ∀ x ∈ flt (rs75 a), Asc x := by
  unfold rs75
  split
  · exact ⟨Nat.zero_le _, fun x hx => absurd hx List.not_mem_nil⟩
  · rw [flt_app, List.length_append]
    exact ⟨Nat.add_le_add (flt_pW_le 16) (flt_pN_le H), asc_app (flt_pW_asc 16) (flt_pN_asc H)⟩
theorem flt_rs52 {a : Nat → Int32} (H6 : NOK (a 6)) (H7 : NOK (a 7)) : (flt (rs52 a)).length ≤ 24 ∧ ∀ x ∈ flt (rs52 a), Asc x := by
  obtain ⟨h1, h2⟩ := flt_rs75 H7
  unfold rs52 rs67
  split
  · exact ⟨by omega, h2⟩
  · rw [flt_app, flt_app, List.length_append, List.length_append]
    refine ⟨?_, asc_app (flt_pW_asc 15) (asc_app (flt_pN_asc H6) h2)⟩
    have := flt_pW_le 15
    have := flt_pN_le H6
    omega
theorem opT_ok {a : Nat → Int32} {b : Nat → Nat} (H : IOK a b) : (opT a b).length ≤ 33 ∧ ∀ x ∈ opT a b, Asc x := by
  obtain ⟨⟨h1, h5, h6, h7⟩, -⟩ := H
  unfold opT
  rw [List.length_append, List.length_append, List.length_append, List.length_append]
  refine ⟨?_, asc_app (flt_pN_asc h1) (asc_app (flt_pW_asc _) (asc_app (flt_pW_asc _) (asc_app (flt_pW_asc _) (flt_pN_asc h5))))⟩
  have := flt_pN_le h1
  have := flt_pN_le h5
  have := flt_pW_le (b 2)
  have := flt_pW_le (b 3)
  have := flt_pW_le (b 4)
  omega
theorem rsI_ok {a : Nat → Int32} {b : Nat → Nat} (H : IOK a b) : (flt (rsI a b)).length ≤ 70 ∧ ∀ x ∈ flt (rsI a b), Asc x := by
  obtain ⟨h1, h2⟩ := opT_ok H
  obtain ⟨h3, h4⟩ := flt_rs52 H.1.2.2.1 H.1.2.2.2
  rw [flt_rsI, List.length_append, List.length_append]
  refine ⟨?_, asc_app (txL_asc _) (asc_app h2 h4)⟩
  have := txL_le (syT.getD (b 0) 0)
  omega
/-! the class's side: what the builder holds -/
theorem apS_l : ∀ (s : List (Nat × (Nat → Int32))) {μ μ' : Mem}, apS s μ = some ((), μ') → μ'.2.2 = μ.2.2
  | [], μ, μ', h => by rw [apS_nil] at h; cases h; rfl
  | (n, f) :: s, μ, μ', h => (apS_l s (apS_cons h).2).trans apB_l
theorem apS_ok : ∀ (s : List (Nat × (Nat → Int32))) {c : Nat} {μ : Mem}, SBQ c μ → c + (flt s).length ≤ 70 → (∀ x ∈ flt s, Asc x) → ∃ μ', apS s μ = some ((), μ') ∧ SBQ (c + (flt s).length) μ' ∧ (∀ k, k < c → μ'.1 33 0 k = μ.1 33 0 k) ∧ ∀ k, k < (flt s).length → μ'.1 33 0 (c + k) = (flt s).getD k 0
  | [], c, μ, hS, _, _ => ⟨μ, rfl, hS, fun _ _ => rfl, fun k hk => absurd hk (Nat.not_lt_zero k)⟩
  | (n, f) :: s, c, μ, hS, hc, ha => by
    rw [flt_cons, List.length_append, List.length_map, List.length_range] at hc
    have hc : c + (n + (flt s).length) ≤ 70 := hc
    have ea : ∀ k, k < n → Asc (f k) := fun k hk => ha _ (by rw [flt_cons]; exact List.mem_append_left _ (List.mem_map.mpr ⟨k, List.mem_range.mpr hk, rfl⟩))
    have h1 : SBQ (c + n) (apB c n f μ) := apB_ok hS (by omega) (fun k hk => asc_fits (ea k hk))
    obtain ⟨μ', g1, g2, g3, g4⟩ := apS_ok s h1 (by omega) (fun x hx => ha x (by rw [flt_cons]; exact List.mem_append_right _ hx))
    have el : (flt ((n, f) :: s)).length = n + (flt s).length := by
      rw [flt_cons, List.length_append, List.length_map, List.length_range]
    refine ⟨μ', ?_, by rw [el, ← Nat.add_assoc]; exact g2, fun k hk => (g3 k (by omega)).trans (apB_old hS hk), fun k hk => ?_⟩
    · show bnd (fAp (cn μ) n f μ) _ = _
      rw [cn_of hS]
      unfold fAp
      rw [grd_ok ⟨hS, by omega⟩, bnd_some]
      exact g1
    · rw [el] at hk
      rw [flt_cons]
      by_cases hkn : k < n
      · rw [g3 (c + k) (by omega), apB_new (by omega) (by omega), Nat.add_sub_cancel_left, List.getD_eq_getElem?_getD, List.getElem?_append_left (by rw [List.length_map, List.length_range]; exact hkn), List.getElem?_map, List.getElem?_range hkn]
        rfl
      · have e : c + k = c + n + (k - n) := by omega
        rw [e, g4 (k - n) (by omega), List.getD_eq_getElem?_getD, List.getD_eq_getElem?_getD, List.getElem?_append_right (by rw [List.length_map, List.length_range]; exact Nat.le_of_not_lt hkn), List.length_map, List.length_range]
