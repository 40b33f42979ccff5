/-- the class's remembering -/
def remC (e u : Nat) (μ : Mem) : Mem := wI (wI (cpS (tau 0) (sC (3 + e)) μ) 0 0 14 (nI ((e + 1) % 10))) 0 0 15 (nI (if u = 10 then 10 else u + 1))
theorem c_remember {μ : Mem} {e u : Nat} (he : e < 10) (hu : u ≤ 10) (h1 : μ.1 0 0 14 = nI e) (h2 : μ.1 0 0 15 = nI u) (hz : ∀ e, e < 4 → μ.1 18 (4 * 0 + e) 10 = 0 ∨ μ.1 18 (4 * 0 + e) 10 = 1) (fu : Nat) :
    fX12_remember (fu + 5) 0 μ = some ((), remC e u μ) := by
  unfold fX12_remember
  have f : ∀ {k : Nat}, (cpS (tau 0) (sC (3 + e)) μ).1 0 0 k = μ.1 0 0 k := cp_out own_S (Or.inl rfl)
  have hm : (e + 1) % 10 < 10 := Nat.mod_lt _ (by decide)
  rw [h1, ckI_nI he (by decide), nI_clamp (by omega), cp_machine (by omega) hz, bnd_some, ckD_ok (by decide), nm_eq, f, h1, nI_1, show (10 : Int32) = nI 10 from rfl, remN (by omega) (by decide) (by decide), nm_eq,
    show (wI (cpS (tau 0) (sC (3 + e)) μ) 0 0 14 (nI ((e + 1) % 10))).1 0 0 15 = nI u from f.trans h2, nI_1]
  have ev : (if nI 10 < nI (u + 1) then nI 10 else nI (u + 1)) = nI (if u = 10 then 10 else u + 1) := by
    by_cases h : u = 10
    · rw [if_pos h, if_pos (nI_lt (by omega) (by omega))]
    · rw [if_neg h, if_neg (nI_nlt (by omega) (by omega))]
  rw [ev]
  rfl
theorem relP_congr {μ μ' : Mem} {p : Nat} {T : Nat → Int32} (h5 : μ'.1 5 = μ.1 5) (h8 : μ'.1 8 = μ.1 8) (h9 : μ'.1 9 = μ.1 9) (hr : μ'.2.1 9 = μ.2.1 9) (h : relP μ p T) : relP μ' p T := by
  unfold relP relI relS at h ⊢
  rw [h5, h8, h9, hr]
  exact h
theorem same_own {μ μ' : Mem} {i : Nat} (h : ∀ κ n k, wd κ ≠ 0 → n / wd κ = i → μ'.1 κ n k = μ.1 κ n k) : Same μ μ' i i :=
  ⟨fun k _ => h 12 i k (by decide) (Nat.div_one i), fun k _ => h 13 i k (by decide) (Nat.div_one i), fun k _ => h 15 i k (by decide) (Nat.div_one i), fun k _ => h 16 i k (by decide) (Nat.div_one i),
   fun t ht k _ => h 17 _ k (by decide) (show (2 * i + t) / 2 = i by omega), fun e he => ⟨fun k _ => h 18 _ k (by decide) (show (4 * i + e) / 4 = i by omega), fun k _ => h 21 _ k (by decide) (show (4 * i + e) / 4 = i by omega),
   fun t ht => ⟨fun k _ => h 19 _ k (by decide) (show (2 * (4 * i + e) + t) / 8 = i by omega), fun k _ => h 20 _ k (by decide) (show (2 * (4 * i + e) + t) / 8 = i by omega)⟩⟩⟩
theorem same_trans {μ μ' μ'' : Mem} {i m : Nat} (h : Same μ μ' i m) (h2 : Same μ' μ'' m m) : Same μ μ'' i m := by
  obtain ⟨a1, a2, a3, a4, a5, a6⟩ := h
  obtain ⟨b1, b2, b3, b4, b5, b6⟩ := h2
  refine ⟨fun k hk => (b1 k hk).trans (a1 k hk), fun k hk => (b2 k hk).trans (a2 k hk), fun k hk => (b3 k hk).trans (a3 k hk), fun k hk => (b4 k hk).trans (a4 k hk), fun t ht k hk => (b5 t ht k hk).trans (a5 t ht k hk), fun e he => ⟨fun k hk => ((b6 e he).1 k hk).trans ((a6 e he).1 k hk), fun k hk => ((b6 e he).2.1 k hk).trans ((a6 e he).2.1 k hk), fun t ht => ⟨fun k hk => (((b6 e he).2.2 t ht).1 k hk).trans (((a6 e he).2.2 t ht).1 k hk), fun k hk => (((b6 e he).2.2 t ht).2 k hk).trans (((a6 e he).2.2 t ht).2 k hk)⟩⟩⟩
/-- but for machine 3 + e and two numbers of the class, remembering changes nothing -/
theorem rem_out {e u : Nat} {μ : Mem} {a b c : Nat} (h0 : a ≠ 0) (h : wd a = 0 ∨ b / wd a ≠ 3 + e) : (remC e u μ).1 a b c = μ.1 a b c := by
  unfold remC
  rw [wI_at, if_neg (fun q => h0 q.1), wI_at, if_neg (fun q => h0 q.1)]
  exact cp_out own_S h
theorem rem_same {e u : Nat} {μ : Mem} : Same μ (remC e u μ) 0 (3 + e) := by
  refine same_trans cp_same (same_own fun κ n k hw _ => ?_)
  have : κ ≠ 0 := fun q => hw (by rw [q]; rfl)
  unfold remC
  rw [wI_at, if_neg (fun q => this q.1), wI_at, if_neg (fun q => this q.1)]
theorem rem_stay {e u i : Nat} {μ : Mem} (h : i ≠ 3 + e) : Same μ (remC e u μ) i i :=
  same_own fun κ n k hw hn => rem_out (fun q => hw (by rw [q]; rfl)) (Or.inr (by rw [hn]; exact h))
/-- the model's recording: what stays, and the history's rows -/
theorem rec_26 {u : Nat} {ν : Mem} {n k : Nat} (h : ¬ (n = 0 ∧ k = 5)) : (recM u ν).1 26 n k = ν.1 26 n k := by
  unfold recM
  split
  · rw [wI_at, if_neg (fun q => h q.2)]
    show (wI (shP 9 ν) 26 0 5 (nI 9)).1 26 n k = _
    rw [wI_at, if_neg (fun q => h q.2)]
    rfl
  · rw [wI_at, if_neg (fun q => h q.2)]
    rfl
theorem rec_27 {u : Nat} {ν : Mem} {n k : Nat} (h : n ≠ 4) : (recM u ν).1 27 n k = ν.1 27 n k := by
  unfold recM
  split
  · show (if 27 = 27 ∧ n = 4 ∧ 700 * 9 ≤ k ∧ k < 700 * 9 + 700 then _ else (if 27 = 27 ∧ n = 4 ∧ k < 700 * 9 then _ else _)) = _
    rw [if_neg (fun q => h q.2.1), if_neg (fun q => h q.2.1)]
  · show (if 27 = 27 ∧ n = 4 ∧ 700 * u ≤ k ∧ k < 700 * u + 700 then _ else _) = _
    rw [if_neg (fun q => h q.2.1)]
theorem rec_28 {u : Nat} {ν : Mem} {n k : Nat} : (recM u ν).1 28 n k = ν.1 28 n k := by
  unfold recM
  split <;> rfl
theorem rec_last {u : Nat} {ν : Mem} (hu : u ≤ 10) {j : Nat} (hj : j < 700) : (recM u ν).1 27 4 (700 * ((if u = 10 then 10 else u + 1) - 1) + j) = ν.1 27 0 j := by
  unfold recM
  by_cases h : u = 10
  · simp only [if_pos h]
    show (if 27 = 27 ∧ 4 = 4 ∧ 700 * 9 ≤ 700 * (10 - 1) + j ∧ 700 * (10 - 1) + j < 700 * 9 + 700 then _ else _) = _
    rw [if_pos ⟨rfl, rfl, by omega, by omega⟩]
    show ν.1 27 0 (700 * 0 + (700 * (10 - 1) + j - 700 * 9)) = _
    rw [show 700 * 0 + (700 * (10 - 1) + j - 700 * 9) = j by omega]
  · simp only [if_neg h]
    show (if 27 = 27 ∧ 4 = 4 ∧ 700 * u ≤ 700 * (u + 1 - 1) + j ∧ 700 * (u + 1 - 1) + j < 700 * u + 700 then _ else _) = _
    rw [if_pos ⟨rfl, rfl, by omega, by omega⟩, show 700 * 0 + (700 * (u + 1 - 1) + j - 700 * u) = j by omega]
theorem rec_old {u : Nat} {ν : Mem} (hu : u ≤ 10) {k j : Nat} (hk : k < (if u = 10 then 10 else u + 1) - 1) (hj : j < 700) : (recM u ν).1 27 4 (700 * k + j) = ν.1 27 4 (700 * (k + (if u = 10 then 1 else 0)) + j) := by
  unfold recM
  by_cases h : u = 10
  · simp only [if_pos h] at hk ⊢
    show (if 27 = 27 ∧ 4 = 4 ∧ 700 * 9 ≤ 700 * k + j ∧ 700 * k + j < 700 * 9 + 700 then _ else (if 27 = 27 ∧ 4 = 4 ∧ 700 * k + j < 700 * 9 then ν.1 27 4 (700 * k + j + 700) else _)) = _
    rw [if_neg (by omega), if_pos ⟨rfl, rfl, by omega⟩, show 700 * k + j + 700 = 700 * (k + 1) + j by omega]
  · simp only [if_neg h] at hk ⊢
    show (if 27 = 27 ∧ 4 = 4 ∧ 700 * u ≤ 700 * k + j ∧ 700 * k + j < 700 * u + 700 then _ else ν.1 27 4 (700 * k + j)) = _
    rw [if_neg (by omega)]
    rfl
