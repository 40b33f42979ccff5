/-- a bit set to b -/
theorem bt_put {x : Int32} {q q' : Nat} (b : Bool) (h : q < 32) (h' : q' < 32) : bt ((x &&& (((1 : Int32) <<< (nI q &&& 31)) ^^^ (-1))) ||| (b2 b <<< (nI q &&& 31))) q' = if q' = q then b else bt x q' := by
  have e : bt (b2 b <<< (nI q &&& 31)) q' = (b && decide (q' = q)) := by
    cases b
    · show bt ((0 : Int32) <<< _) q' = _
      rw [shl0, bt_0]; rfl
    · show bt ((1 : Int32) <<< _) q' = _
      rw [bt_bit h h']; rfl
  rw [bt_or, bt_and, bt_xor, bt_m1 h', bt_bit h h', e]
  by_cases hq : q' = q
  · subst hq; simp
  · simp [hq]
theorem b2_of {v : Int32} (h : v = 0 ∨ v = 1) : ∃ b, v = b2 b := h.elim (fun h => ⟨false, h⟩) (fun h => ⟨true, h⟩)
theorem relM_drive {μ : Mem} {p q0 : Nat} {b : Bool} {w : Int32} {T : Nat → Int32} (hq0 : q0 < 16) (hw : ∀ q, q < 16 → bt w q = if q = q0 then b else bt (μ.1 12 0 3) q) (q : relM μ 0 p T) : relM (wI μ 12 0 3 w) 0 p (fun k => if k = 4 + 6 * q0 + 2 then b2 b else T k) := by
  obtain ⟨⟨c, hc, c1, c2, c3⟩, ⟨o1, o2⟩, hp, hf, hm, ⟨n, hn, n1, n2, n3⟩, he⟩ := q
  have t : ∀ k, k ≠ 4 + 6 * q0 + 2 → (if k = 4 + 6 * q0 + 2 then b2 b else T k) = T k := fun k h => if_neg h
  refine ⟨⟨c, hc, (t 1 (by omega)).trans c1, c2, fun k hk hkc q hq => ?_⟩, ?_, fun q hq => ?_, fun f hf' => (t _ (by omega)).trans (hf f hf'), fun a' ha' => (t _ (by omega)).trans (hm a' ha'), ⟨n, hn, (t 3 (by omega)).trans n1, n2, fun k hk => ?_⟩, fun e' he4 h1 => ?_⟩
  · show bt (if 220 + k = 4 + 6 * q0 + 2 then b2 b else T (220 + k)) q = _
    rw [t _ (by omega)]; exact c3 k hk hkc q hq
  · show (if 2 = 4 + 6 * q0 + 2 then b2 b else T 2) = _ ∧ ((if 2 = 4 + 6 * q0 + 2 then b2 b else T 2) = -1 ∨ ∃ n : Nat, n < 4 ∧ (if 2 = 4 + 6 * q0 + 2 then b2 b else T 2) = nI n)
    rw [t 2 (by omega)]; exact ⟨o1, o2⟩
  · obtain ⟨b1, b2', b3, b4, b5, b6⟩ := hp q hq
    refine ⟨(t _ (by omega)).trans b1, (t _ (by omega)).trans b2', ?_, (t _ (by omega)).trans b4, (t _ (by omega)).trans b5, (t _ (by omega)).trans b6⟩
    show (if 4 + 6 * q + 2 = 4 + 6 * q0 + 2 then b2 b else T (4 + 6 * q + 2)) = b2 (bt ((wI μ 12 0 3 w).1 12 0 3) q)
    rw [wI_same, hw q hq]
    by_cases hh : q = q0
    · rw [if_pos (by omega), if_pos hh]
    · rw [if_neg (by omega), if_neg hh]; exact b3
  · obtain ⟨c', q, l, b1, b2, b3, b4, b5, b6, b7⟩ := n3 k hk
    exact ⟨c', q, l, b1, b2, b3, (t _ (by omega)).trans b4, (t _ (by omega)).trans b5, (t _ (by omega)).trans b6, b7⟩
  · obtain ⟨x, b, cnt, d1, d2, d3, d4⟩ := he e' he4 h1
    exact ⟨relE_T (t _ (by omega)) (t _ (by omega)) (fun k hk => t _ (by omega)) x, b, cnt, (t 0 (by omega)).trans d1, d2, (t _ (by omega)).trans d3, d4⟩
theorem rel2_pin {p : Nat} {μ ν : Mem} (h : Rel2 p μ ν) {q : Nat} (hq : q < 16) : relPin μ 0 q (fun k => tN ν (4 + 6 * q + k)) := h.2.2.1.2.2.1 q hq
theorem c_checkLevel_bad {μ : Mem} {x : Int32} (h : x < 0 ∨ nI 2 ≤ x) : fX12_checkLevel x μ = some (.inl 2, μ) := by
  unfold fX12_checkLevel
  simp only [jn_eq]
  by_cases h1 : x < 0
  · rw [if_pos h1]
  · rw [if_neg h1, if_neg]
    have := h.resolve_left h1
    rw [Int32.le_iff_toInt_le, nI_toInt (by decide)] at this
    rw [Int32.le_iff_toInt_le, show (1 : Int32) = nI 1 from rfl, nI_toInt (by decide)]
    omega
theorem c_checkLevel_ok {μ : Mem} {j : Nat} (h : j < 2) : fX12_checkLevel (nI j) μ = some (.inr (), μ) := by
  unfold fX12_checkLevel
  simp only [jn_eq]
  rw [if_neg (nI_pos (by omega)), if_pos (show nI j ≤ (1 : Int32) from nI_le (b := 1) (by omega) (by decide))]
/-- the level as the model has it -/
theorem m_levelOf {ν : Mem} {q : Nat} (hq : q < 16) {d l o : Bool} (h1 : tN ν (4 + 6 * q + 1) = b2 d) (h0 : tN ν (4 + 6 * q + 0) = b2 l) (h2 : tN ν (4 + 6 * q + 2) = b2 o) : fX13_levelOf 0 (nI q) ν = some (b2 (if d then l else o), ν) := by
  have e1 : fX13_ofPin 0 (nI q) 1 ν = some (tN ν (4 + 6 * q + 1), ν) := r_ofPin (f := 1) (by omega)
  have e2 : fX13_ofPin 0 (nI q) 2 ν = some (tN ν (4 + 6 * q + 2), ν) := r_ofPin (f := 2) (by omega)
  have e0 : fX13_ofPin 0 (nI q) 0 ν = some (tN ν (4 + 6 * q + 0), ν) := r_ofPin (f := 0) (by omega)
  unfold fX13_levelOf
  simp only [jn_eq]
  rw [e1, bnd_some, h1, b2_if, e0, e2, h0, h2]
  cases d <;> rfl
