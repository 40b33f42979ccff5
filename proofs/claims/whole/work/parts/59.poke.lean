theorem wT {ν : Mem} {j : Nat} {v : Int32} : (fun k => (wI ν 27 0 j v).1 27 0 k) = fun k => if k = j then v else ν.1 27 0 k := by
  funext k
  rw [wI_at]
  by_cases h : k = j
  · rw [if_pos ⟨rfl, rfl, h⟩, if_pos h]
  · rw [if_neg (fun q => h q.2.2), if_neg h]
theorem relM_mem {μ : Mem} {i p a : Nat} {v : Int32} {T : Nat → Int32} (ha : a < 16) (q : relM μ i p T) : relM (wI μ 13 i a v) i p (fun k => if k = 108 + a then v else T k) := by
  obtain ⟨⟨c, hc, c1, c2, c3⟩, ⟨o1, o2⟩, hp, hf, hm, ⟨n, hn, n1, n2, n3⟩, he⟩ := q
  have t : ∀ k, k ≠ 108 + a → (if k = 108 + a then v else T k) = T k := fun k h => if_neg h
  refine ⟨⟨c, hc, (t 1 (by omega)).trans c1, c2, fun k hk hkc q hq => ?_⟩, ?_, fun q hq => ?_, fun f hf' => (t _ (by omega)).trans (hf f hf'), fun a' ha' => ?_, ⟨n, hn, (t 3 (by omega)).trans n1, n2, fun k hk => ?_⟩, fun e he4 h1 => ?_⟩
  · show bt (if 220 + k = 108 + a then v else T (220 + k)) q = _
    rw [t _ (by omega)]; exact c3 k hk hkc q hq
  · show (if 2 = 108 + a then v else T 2) = _ ∧ ((if 2 = 108 + a then v else T 2) = -1 ∨ ∃ n : Nat, n < 4 ∧ (if 2 = 108 + a then v else T 2) = nI n)
    rw [t 2 (by omega)]; exact ⟨o1, o2⟩
  · obtain ⟨b1, b2, b3, b4, b5, b6⟩ := hp q hq
    exact ⟨(t _ (by omega)).trans b1, (t _ (by omega)).trans b2, (t _ (by omega)).trans b3, (t _ (by omega)).trans b4, (t _ (by omega)).trans b5, (t _ (by omega)).trans b6⟩
  · show (if 108 + a' = 108 + a then v else T (108 + a')) = (wI μ 13 i a v).1 13 i a'
    rw [wI_at]
    by_cases hh : a' = a
    · rw [if_pos (by omega), if_pos ⟨rfl, rfl, hh⟩]
    · rw [if_neg (by omega), if_neg (fun q => hh q.2.2)]; exact hm a' ha'
  · obtain ⟨c', q, l, b1, b2, b3, b4, b5, b6, b7⟩ := n3 k hk
    exact ⟨c', q, l, b1, b2, b3, (t _ (by omega)).trans b4, (t _ (by omega)).trans b5, (t _ (by omega)).trans b6, b7⟩
  · obtain ⟨x, b, cnt, d1, d2, d3, d4⟩ := he e he4 h1
    exact ⟨relE_T (t _ (by omega)) (t _ (by omega)) (fun k hk => t _ (by omega)) x, b, cnt, (t 0 (by omega)).trans d1, d2, (t _ (by omega)).trans d3, d4⟩
theorem rel2_okQ {p : Nat} {μ ν : Mem} (h : Rel2 p μ ν) {j : Nat} (hj : j < 104) : okQ μ j := h.2.2.2.2.2.2.2.2.2.1 j hj
theorem rel2_z {p : Nat} {μ ν : Mem} (h : Rel2 p μ ν) {j : Nat} (hj : j < 52) : μ.1 18 j 10 = 0 ∨ μ.1 18 j 10 = 1 := h.2.2.2.2.2.2.2.2.2.2 j hj
/-- remembering, both at once -/
theorem both_remember {p : Nat} {μ ν : Mem} (h : Rel2 p μ ν) : ∃ μ1 ν1, (∀ fu, fX12_remember (fu + 5) 0 μ = some ((), μ1)) ∧ (∀ fu, fX13_record (fu + 701) 0 ν = some ((), ν1)) ∧ Rel2 p μ1 ν1 ∧ KR μ μ1 ∧ KC ν ν1 ∧ ν1.1 26 0 6 = ν.1 26 0 6 ∧ (∀ k, k ≠ 14 → k ≠ 15 → μ1.1 0 0 k = μ.1 0 0 k) ∧ μ1.2 = μ.2 ∧
    (∀ κ n k, κ ≠ 0 → κ < 26 → (wd κ = 0 ∨ n / wd κ = 0) → μ1.1 κ n k = μ.1 κ n k) ∧ (∀ k, ν1.1 27 0 k = ν.1 27 0 k) := by
  obtain ⟨e, u, he, hu, h1, h2, h3, h4⟩ := rel2_remember h
  refine ⟨_, _, fun fu => c_remember he hu h1 h2 (fun e' he' => rel2_z h (by omega)) fu, fun fu => m_record h3 hu fu, h4, kr_rem, kc_rec, rec_26 (by decide), fun k a b => ?_, rfl, fun κ n k a _ b => rem_out a (b.imp id (fun q => by omega)), fun k => rec_27 (by decide)⟩
  unfold remC
  rw [wI_at, if_neg (fun q => b q.2.2), wI_at, if_neg (fun q => a q.2.2)]
  exact cp_out own_S (Or.inl rfl)
