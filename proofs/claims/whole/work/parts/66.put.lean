/-! promise 27: put -/
theorem c_isFull {μ : Mem} {j s r : Nat} (h1 : μ.1 19 j 0 = nI s) (h2 : μ.1 19 j 1 = nI r) (hs : s ≤ 8) (hr : r ≤ 8) : fX7_isFull j μ = some (if s < r then 0 else 1, μ) := by
  unfold fX7_isFull
  simp only [jn_eq]
  rw [h1, h2]
  by_cases h : s < r
  · rw [if_pos (nI_lt h (by omega)), if_pos h]; exact ckZ_ok (Or.inl rfl)
  · rw [if_neg (nI_nlt (by omega) (by omega)), if_neg h]; exact ckZ_ok (Or.inr rfl)
/-- a word more at the end of the queue at j -/
def appC (j s hh : Nat) (v : Int32) (μ : Mem) : Mem := wI (wI μ 20 j ((hh + s) % 8) v) 19 j 0 (nI (s + 1))
theorem c_append {μ : Mem} {j s r hh : Nat} {v : Int32} (h1 : μ.1 19 j 0 = nI s) (h2 : μ.1 19 j 1 = nI r) (h3 : μ.1 19 j 2 = nI hh) (hs : s < r) (hr : r ≤ 8) (h8 : hh < 8) : fX7_append j v μ = some ((), appC j s hh v μ) := by
  unfold fX7_append
  simp only [jn_eq, nm_eq]
  have hm : (hh + s) % 8 < 8 := Nat.mod_lt _ (by decide)
  rw [c_isFull h1 h2 (by omega) hr, if_pos hs, bnd_some, if_neg nn0, h1, h3, nI_add, show (8 : Int32) = nI 8 from rfl, ckD_ok (by decide), remN (by omega) (by decide) (by decide), ckI_nI hm (by decide), nI_clamp (by omega)]
  show some ((), wI (wI μ 20 j ((hh + s) % 8) v) 19 j 0 (μ.1 19 j 0 + 1)) = _
  rw [h1, nI_1]
  rfl
theorem relQ_append {μ : Mem} {j s hh r : Nat} {v cnt' room : Int32} {w w' : Nat → Int32} (h1 : μ.1 19 j 0 = nI s) (h2 : μ.1 19 j 1 = nI r) (h3 : μ.1 19 j 2 = nI hh) (hs : s < r) (hr : r ≤ 8) (h8 : hh < 8) (hroom : room = nI r) (hc : cnt' = nI (s + 1)) (hw : ∀ k, k < s → w k = μ.1 20 j ((hh + k) % 8)) (hw' : ∀ k, k < s → w' k = w k) (hv : w' s = v) : relQ (appC j s hh v μ) j cnt' room w' := by
  refine ⟨s + 1, hh, r, by omega, hr, h8, wI_same, ?_, ?_, hc, hroom, fun k hk => ?_⟩
  · unfold appC; rw [wI_at, if_neg (by omega), wI_at, if_neg (by omega)]; exact h2
  · unfold appC; rw [wI_at, if_neg (by omega), wI_at, if_neg (by omega)]; exact h3
  · unfold appC
    rw [wI_at, if_neg (by omega), wI_at]
    by_cases h : k = s
    · subst h; rw [if_pos ⟨rfl, rfl, rfl⟩]; exact hv
    · rw [if_neg (by omega), hw' k (by omega)]; exact hw k (by omega)
theorem m_isFull {ν : Mem} {e s r : Nat} (he : e < 4) (h1 : tN ν (560 + 35 * e + 11) = nI s) (h2 : tN ν (476 + 21 * e + 19) = nI r) (hs : s ≤ 8) (hr : r ≤ 8) : fX13_isFull 0 (nI e) 0 ν = some (if s < r then 0 else 1, ν) := by
  unfold fX13_isFull
  simp only [jn_eq]
  rw [if_pos trivial, show (11 : Int32) = nI 11 from rfl, r_of (by omega), bnd_some, if_pos trivial, show (19 : Int32) = nI 19 from rfl, r_setting (by omega), bnd_some, h1, h2]
  by_cases h : s < r
  · rw [if_pos (nI_lt h (by omega)), if_pos h]; exact ckZ_ok (Or.inl rfl)
  · rw [if_neg (nI_nlt (by omega) (by omega)), if_neg h]; exact ckZ_ok (Or.inr rfl)
def appM (e s : Nat) (v : Int32) (ν : Mem) : Mem := wI (wI ν 27 0 (560 + 35 * e + (13 + s)) v) 27 0 (560 + 35 * e + 11) (nI (s + 1))
theorem m_append {ν : Mem} {e s : Nat} {v : Int32} (he : e < 4) (h1 : tN ν (560 + 35 * e + 11) = nI s) (hs : s < 8) : fX13_append 0 (nI e) 0 v ν = some ((), appM e s v ν) := by
  unfold fX13_append
  simp only [jn_eq]
  rw [if_pos trivial, if_pos trivial, show (11 : Int32) = nI 11 from rfl, r_of (by omega), bnd_some, h1, show (13 : Int32) = nI 13 from rfl, nI_add, r_set (by omega), bnd_some, r_add (by omega), bnd_some]
  have e1 : tN (wI ν 27 0 (560 + 35 * e + (13 + s)) v) (560 + 35 * e + 11) = nI s := by
    show (wI ν 27 0 _ v).1 27 0 _ = _
    rw [wI_at, if_neg (by omega)]; exact h1
  rw [e1, nI_1]
  rfl
