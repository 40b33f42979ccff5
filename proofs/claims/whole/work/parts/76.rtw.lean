theorem tN_wI {ν : Mem} {k k' : Nat} {v : Int32} : tN (wI ν 27 0 k' v) k = if k = k' then v else tN ν k := by
  show (if 27 = 27 ∧ 0 = 0 ∧ k = k' then v else _) = _
  by_cases h : k = k'
  · rw [if_pos ⟨rfl, rfl, h⟩, if_pos h]
  · rw [if_neg (fun q => h q.2.2), if_neg h]
theorem tN_o {ν : Mem} {κ n k k' : Nat} {v : Int32} (h : κ ≠ 27 ∨ n ≠ 0 ∨ k ≠ k') : tN (wI ν κ n k' v) k = tN ν k := if_neg (fun q => h.elim (fun h => h q.1.symm) (fun h => h.elim (fun h => h q.2.1.symm) (fun h => h q.2.2)))
theorem wI_o {μ : Mem} {κ n k a b c : Nat} {v : Int32} (h : ¬ (a = κ ∧ b = n ∧ c = k)) : (wI μ κ n k v).1 a b c = μ.1 a b c := if_neg h
theorem fr_c {i e : Nat} {μ0 μ : Mem} {a b c : Nat} {v : Int32} (h : ∀ κ n k, ¬ WC i e κ n k → μ.1 κ n k = μ0.1 κ n k) (hw : WC i e a b c) : ∀ κ n k, ¬ WC i e κ n k → (wI μ a b c v).1 κ n k = μ0.1 κ n k := fun κ n k q => by
  rw [wI_at, if_neg (fun z => q (by obtain ⟨rfl, rfl, rfl⟩ := z; exact hw))]; exact h κ n k q
theorem fr_m {e : Nat} {ν0 ν : Mem} {a b c : Nat} {v : Int32} (h : ∀ κ n k, ¬ WM e κ n k → ν.1 κ n k = ν0.1 κ n k) (hw : WM e a b c) : ∀ κ n k, ¬ WM e κ n k → (wI ν a b c v).1 κ n k = ν0.1 κ n k := fun κ n k q => by
  rw [wI_at, if_neg (fun z => q (by obtain ⟨rfl, rfl, rfl⟩ := z; exact hw))]; exact h κ n k q
theorem rpn_congr {i e : Nat} {μ0 μ μ' ν ν' : Mem} {w : Bool} (h1 : μ'.1 12 i 1 = μ.1 12 i 1) (h2 : μ'.1 12 i 2 = μ.1 12 i 2) (h : ∀ n, (n = 2 ∨ n = 3 ∨ n = 4 ∨ n = 5) → ν'.1 28 n e = ν.1 28 n e) (q : RPn i e μ0 μ ν w) : RPn i e μ0 μ' ν' w := by
  unfold RPn wok apW at q ⊢
  rw [h1, h2, h 2 (by decide), h 3 (by decide), h 4 (by decide), h 5 (by decide)]
  exact q
section
variable {i e cnt : Nat} {nx : Int32} {μ0 ν0 μ ν : Mem} {w : Bool}
theorem rt_w {k : Nat} {v : Int32} (hk : 0 < k ∧ k < 10) (c5 : k = 5 ∨ k = 6 → ∃ n : Nat, n ≤ 32 ∧ v = nI n) (c7 : k = 7 → ∃ n : Nat, n ≤ 31 ∧ v = nI n) (c8 : k = 8 → ∃ n : Nat, n ≤ 5 ∧ v = nI n) (h : RT i e cnt nx μ0 ν0 μ ν w) :
    RT i e cnt nx μ0 ν0 (wI μ 18 (4 * i + e) k v) (wI ν 27 0 (560 + 35 * e + (k + 1)) v) w := by
  obtain ⟨⟨h1, h2⟩, hc, hm, hE, ha, ⟨hr1, hr2⟩, hx, hp⟩ := h
  refine ⟨⟨h1, h2⟩, fr_c hc (Or.inl ⟨rfl, rfl, by omega⟩), fr_m hm (Or.inl ⟨rfl, rfl, Or.inl ⟨by omega, by omega⟩⟩), relE_put (v := v) hk.2 (fun c => ?_) (fun c => wI_o (by omega)) (fun t c _ => wI_o (by omega)) (fun t c _ => wI_o (by omega)) (fun c hc => ?_) c5 c7 c8 hE, fun a ha' => ?_, ⟨?_, ?_⟩, ?_, ?_⟩
  · rw [wI_at]
    by_cases hh : c = k
    · rw [if_pos ⟨rfl, rfl, hh⟩, if_pos hh]
    · rw [if_neg (fun q => hh q.2.2), if_neg hh]
  · show tN (wI ν 27 0 _ v) _ = _
    rw [tN_wI]
    by_cases hh : c = k + 1
    · rw [if_pos (by omega), if_pos hh]
    · rw [if_neg (by omega), if_neg hh]
  · rw [tN_o (by omega), wI_o (by omega)]; exact ha a ha'
  · rw [wI_o (by omega), wI_o (by omega)]; exact hr1
  · rw [wI_o (by omega), wI_o (by omega)]; exact hr2
  · rw [wI_o (by omega), wI_o (by omega)]; exact hx
  · exact rpn_congr (wI_o (by omega)) (wI_o (by omega)) (fun n _ => wI_o (by omega)) hp
theorem rt_cnt {k : Nat} {v : Int32} (hk : 0 < k ∧ k < 6) (h : RT i e cnt nx μ0 ν0 μ ν w) : RT i e cnt nx μ0 ν0 (wI μ 21 (4 * i + e) k v) (wI ν 27 0 (560 + 35 * e + (29 + k)) v) w := by
  obtain ⟨⟨h1, h2⟩, hc, hm, hE, ha, ⟨hr1, hr2⟩, hx, hp⟩ := h
  refine ⟨⟨h1, h2⟩, fr_c hc (Or.inr (Or.inl ⟨rfl, rfl, by omega⟩)), fr_m hm (Or.inl ⟨rfl, rfl, Or.inl ⟨by omega, by omega⟩⟩), relE_cnt (v := v) hk.2 (fun c => wI_o (by omega)) (fun c => ?_) (fun t c _ => wI_o (by omega)) (fun t c _ => wI_o (by omega)) (fun c hc => ?_) hE, fun a ha' => ?_, ⟨?_, ?_⟩, ?_, ?_⟩
  · rw [wI_at]
    by_cases hh : c = k
    · rw [if_pos ⟨rfl, rfl, hh⟩, if_pos hh]
    · rw [if_neg (fun q => hh q.2.2), if_neg hh]
  · show tN (wI ν 27 0 _ v) _ = _
    rw [tN_wI]
    by_cases hh : c = 29 + k
    · rw [if_pos (by omega), if_pos hh]
    · rw [if_neg (by omega), if_neg hh]
  · rw [tN_o (by omega), wI_o (by omega)]; exact ha a ha'
  · rw [wI_o (by omega), wI_o (by omega)]; exact hr1
  · rw [wI_o (by omega), wI_o (by omega)]; exact hr2
  · rw [wI_o (by omega), wI_o (by omega)]; exact hx
  · exact rpn_congr (wI_o (by omega)) (wI_o (by omega)) (fun n _ => wI_o (by omega)) hp
theorem rt_mem {a : Nat} {v : Int32} (ha0 : a < 16) (he : e < 4) (h : RT i e cnt nx μ0 ν0 μ ν w) : RT i e cnt nx μ0 ν0 (wI μ 13 i a v) (wI ν 27 0 (108 + a) v) w := by
  obtain ⟨⟨h1, h2⟩, hc, hm, hE, ha, ⟨hr1, hr2⟩, hx, hp⟩ := h
  refine ⟨⟨h1, h2⟩, fr_c hc (Or.inr (Or.inr (Or.inr (Or.inr (Or.inl ⟨rfl, rfl⟩))))), fr_m hm (Or.inl ⟨rfl, rfl, Or.inr ⟨by omega, by omega⟩⟩), relE_T rfl rfl (fun c hc => tN_o (by omega)) hE, fun a' ha' => ?_, ⟨?_, ?_⟩, ?_, ?_⟩
  · rw [tN_wI, wI_at]
    by_cases hh : a' = a
    · rw [if_pos (by omega), if_pos ⟨rfl, rfl, hh⟩]
    · rw [if_neg (by omega), if_neg (fun q => hh q.2.2)]; exact ha a' ha'
  · rw [wI_o (by omega), wI_o (by omega)]; exact hr1
  · rw [wI_o (by omega), wI_o (by omega)]; exact hr2
  · rw [wI_o (by omega), wI_o (by omega)]; exact hx
  · exact rpn_congr (wI_o (by omega)) (wI_o (by omega)) (fun n _ => wI_o (by omega)) hp
theorem rt_raise {v : Int32} (h : RT i e cnt nx μ0 ν0 μ ν w) : RT i e cnt nx μ0 ν0 (wI μ 22 0 4 v) (wI ν 26 0 16 v) w := by
  obtain ⟨⟨h1, h2⟩, hc, hm, hE, ha, ⟨hr1, hr2⟩, hx, hp⟩ := h
  refine ⟨⟨h1, h2⟩, fr_c hc (Or.inr (Or.inr (Or.inr (Or.inr (Or.inr ⟨rfl, rfl, Or.inl rfl⟩))))), fr_m hm (Or.inr (Or.inl ⟨rfl, rfl, Or.inl rfl⟩)), hE, ha, ⟨?_, ?_⟩, ?_, hp⟩
  · rw [wI_same, wI_same]
  · rw [wI_o (by omega), wI_o (by omega)]; exact hr2
  · rw [wI_o (by omega), wI_o (by omega)]; exact hx
theorem rt_clear {v : Int32} (h : RT i e cnt nx μ0 ν0 μ ν w) : RT i e cnt nx μ0 ν0 (wI μ 22 0 5 v) (wI ν 26 0 17 v) w := by
  obtain ⟨⟨h1, h2⟩, hc, hm, hE, ha, ⟨hr1, hr2⟩, hx, hp⟩ := h
  refine ⟨⟨h1, h2⟩, fr_c hc (Or.inr (Or.inr (Or.inr (Or.inr (Or.inr ⟨rfl, rfl, Or.inr (Or.inl rfl)⟩))))), fr_m hm (Or.inr (Or.inl ⟨rfl, rfl, Or.inr (Or.inl rfl)⟩)), hE, ha, ⟨?_, ?_⟩, ?_, hp⟩
  · rw [wI_o (by omega), wI_o (by omega)]; exact hr1
  · rw [wI_same, wI_same]
  · rw [wI_o (by omega), wI_o (by omega)]; exact hx
theorem rt_next {a : Nat} (hl : a < cnt) (h : RT i e cnt nx μ0 ν0 μ ν w) : RT i e cnt nx μ0 ν0 (wI μ 22 0 6 (nI a)) (wI ν 26 0 19 (nI a)) w := by
  obtain ⟨⟨h1, h2⟩, hc, hm, hE, ha, ⟨hr1, hr2⟩, hx, hp⟩ := h
  refine ⟨⟨h1, h2⟩, fr_c hc (Or.inr (Or.inr (Or.inr (Or.inr (Or.inr ⟨rfl, rfl, Or.inr (Or.inr rfl)⟩))))), fr_m hm (Or.inr (Or.inl ⟨rfl, rfl, Or.inr (Or.inr rfl)⟩)), hE, ha, ⟨?_, ?_⟩, Or.inr ⟨a, hl, wI_same, wI_same⟩, hp⟩
  · rw [wI_o (by omega), wI_o (by omega)]; exact hr1
  · rw [wI_o (by omega), wI_o (by omega)]; exact hr2
/-- the model alone writes -1 where it has -1 -/
theorem rt_stay (hs : ν.1 26 0 19 = -1) (h : RT i e cnt nx μ0 ν0 μ ν w) : RT i e cnt nx μ0 ν0 μ (wI ν 26 0 19 (-1)) w := by
  have : wI ν 26 0 19 (-1) = ν := by
    refine Prod.ext (funext fun a => funext fun b => funext fun c => ?_) rfl
    rw [wI_at]
    by_cases hh : a = 26 ∧ b = 0 ∧ c = 19
    · obtain ⟨rfl, rfl, rfl⟩ := hh; rw [if_pos ⟨rfl, rfl, rfl⟩, hs]
    · rw [if_neg hh]
  rw [this]; exact h
/-! the queues -/
theorem nI_inj {a b : Nat} (ha : a < 2 ^ 31) (hb : b < 2 ^ 31) (h : nI a = nI b) : a = b := (nI_eq ha hb).mp h
theorem rt_inq (h : RT i e cnt nx μ0 ν0 μ ν w) : relQ μ (2 * (4 * i + e)) (tN ν (560 + 35 * e + 11)) (tN ν0 (476 + 21 * e + 19)) (fun k => tN ν (560 + 35 * e + (13 + k))) := h.2.2.2.1.2.2.2.2.2.2.2.2.1
theorem rt_outq (h : RT i e cnt nx μ0 ν0 μ ν w) : relQ μ (2 * (4 * i + e) + 1) (tN ν (560 + 35 * e + 12)) (tN ν0 (476 + 21 * e + 20)) (fun k => tN ν (560 + 35 * e + (21 + k))) := h.2.2.2.1.2.2.2.2.2.2.2.2.2
def appE (e s : Nat) (v : Int32) (ν : Mem) : Mem := wI (wI ν 27 0 (560 + 35 * e + (21 + s)) v) 27 0 (560 + 35 * e + 12) (nI (s + 1))
theorem rt_app {s hh r : Nat} {v : Int32} (q1 : μ.1 19 (2 * (4 * i + e) + 1) 0 = nI s) (q2 : μ.1 19 (2 * (4 * i + e) + 1) 1 = nI r) (q3 : μ.1 19 (2 * (4 * i + e) + 1) 2 = nI hh) (hs : s < r) (hr : r ≤ 8) (h8 : hh < 8) (h : RT i e cnt nx μ0 ν0 μ ν w) :
    RT i e cnt nx μ0 ν0 (appC (2 * (4 * i + e) + 1) s hh v μ) (appE e s v ν) w := by
  obtain ⟨s', hh', r', b1, b2, b3, b4, b5, b6, b7, b8, b9⟩ := rt_outq h
  obtain ⟨⟨h1, h2⟩, hc, hm, hE, ha, ⟨hr1, hr2⟩, hx, hp⟩ := h
  have es : s' = s := nI_inj (by omega) (by omega) (b4.symm.trans q1)
  have er : r' = r := nI_inj (by omega) (by omega) (b5.symm.trans q2)
  have eh : hh' = hh := nI_inj (by omega) (by omega) (b6.symm.trans q3)
  subst es er eh
  have co : ∀ {κ n k : Nat}, ¬ ((κ = 19 ∨ κ = 20) ∧ n = 2 * (4 * i + e) + 1) → (appC (2 * (4 * i + e) + 1) s' hh' v μ).1 κ n k = μ.1 κ n k := fun {κ n k} q => by
    unfold appC; rw [wI_o (fun z => q ⟨Or.inl z.1, z.2.1⟩), wI_o (fun z => q ⟨Or.inr z.1, z.2.1⟩)]
  have mo : ∀ {κ n k : Nat}, ¬ (κ = 27 ∧ n = 0 ∧ (k = 560 + 35 * e + (21 + s') ∨ k = 560 + 35 * e + 12)) → (appE e s' v ν).1 κ n k = ν.1 κ n k := fun {κ n k} q => by
    unfold appE; rw [wI_o (fun z => q ⟨z.1, z.2.1, Or.inr z.2.2⟩), wI_o (fun z => q ⟨z.1, z.2.1, Or.inl z.2.2⟩)]
  refine ⟨⟨h1, h2⟩, fun κ n k q => ?_, fun κ n k q => ?_, relE_que (t := 1) (by decide) (fun c => co (by omega)) (fun c => co (by omega)) (fun c => co (by omega)) (fun c => co (by omega)) (fun c c1 c2 c3 => mo (by omega)) ?_ hE, fun a ha' => ?_, ⟨?_, ?_⟩, ?_, ?_⟩
  · rw [co (fun z => q (Or.inr (Or.inr (Or.inl ⟨z.1, Or.inr z.2⟩))))]; exact hc κ n k q
  · rw [mo (fun z => q (Or.inl ⟨z.1, z.2.1, Or.inl (by omega)⟩))]; exact hm κ n k q
  · refine relQ_append (w := fun k => tN ν (560 + 35 * e + (21 + k))) b4 b5 b6 hs hr h8 b8 wI_same b9 (fun k hk => ?_) ?_
    · exact mo (by omega)
    · show (appE e s' v ν).1 27 0 (560 + 35 * e + (21 + s')) = v
      unfold appE; rw [wI_o (by omega)]; exact wI_same
  · show (appE e s' v ν).1 27 0 (108 + a) = _
    rw [mo (by omega), co (by omega)]; exact ha a ha'
  · rw [mo (by omega), co (by omega)]; exact hr1
  · rw [mo (by omega), co (by omega)]; exact hr2
  · rw [mo (by omega), co (by omega)]; exact hx
  · exact rpn_congr (co (by omega)) (co (by omega)) (fun n _ => mo (by omega)) hp
theorem rt_rem {s hh : Nat} (q1 : μ.1 19 (2 * (4 * i + e)) 0 = nI s) (q3 : μ.1 19 (2 * (4 * i + e)) 2 = nI hh) (hs : 0 < s) (hr : s ≤ 8) (h8 : hh < 8) (h : RT i e cnt nx μ0 ν0 μ ν w) :
    RT i e cnt nx μ0 ν0 (remQ (2 * (4 * i + e)) s hh μ) (wI (shQ e 13 (s - 1) ν) 27 0 (560 + 35 * e + 11) (nI (s - 1))) w ∧ tN ν (560 + 35 * e + 13) = μ.1 20 (2 * (4 * i + e)) hh := by
  obtain ⟨s', hh', r', b1, b2, b3, b4, b5, b6, b7, b8, b9⟩ := rt_inq h
  obtain ⟨⟨h1, h2⟩, hc, hm, hE, ha, ⟨hr1, hr2⟩, hx, hp⟩ := h
  have es : s' = s := nI_inj (by omega) (by omega) (b4.symm.trans q1)
  have eh : hh' = hh := nI_inj (by omega) (by omega) (b6.symm.trans q3)
  subst es eh
  have co : ∀ {κ n k : Nat}, ¬ (κ = 19 ∧ n = 2 * (4 * i + e)) → (remQ (2 * (4 * i + e)) s' hh' μ).1 κ n k = μ.1 κ n k := fun {κ n k} q => by
    unfold remQ; rw [wI_o (fun z => q ⟨z.1, z.2.1⟩), wI_o (fun z => q ⟨z.1, z.2.1⟩)]
  have mo : ∀ {κ n k : Nat}, ¬ (κ = 27 ∧ n = 0 ∧ (k = 560 + 35 * e + 11 ∨ (560 + 35 * e + 13 ≤ k ∧ k < 560 + 35 * e + 21))) → (wI (shQ e 13 (s' - 1) ν) 27 0 (560 + 35 * e + 11) (nI (s' - 1))).1 κ n k = ν.1 κ n k := fun {κ n k} q => by
    rw [wI_o (fun z => q ⟨z.1, z.2.1, Or.inl z.2.2⟩)]
    exact if_neg (fun z => q ⟨z.1, z.2.1, Or.inr (by omega)⟩)
  have w0 : tN ν (560 + 35 * e + 13) = μ.1 20 (2 * (4 * i + e)) hh' := by
    have := b9 0 hs
    rw [show (hh' + 0) % 8 = hh' by omega] at this
    exact this
  refine ⟨⟨⟨h1, h2⟩, fun κ n k q => ?_, fun κ n k q => ?_, relE_que (t := 0) (by decide) (fun c => co (by omega)) (fun c => co (by omega)) (fun c => co (by omega)) (fun c => co (by omega)) (fun c c1 c2 c3 => mo (by omega)) ?_ hE, fun a ha' => ?_, ⟨?_, ?_⟩, ?_, ?_⟩, w0⟩
  · rw [co (fun z => q (Or.inr (Or.inr (Or.inl ⟨Or.inl z.1, Or.inl z.2⟩))))]; exact hc κ n k q
  · rw [mo (fun z => q (Or.inl ⟨z.1, z.2.1, Or.inl (by omega)⟩))]; exact hm κ n k q
  · refine ⟨s' - 1, (hh' + 1) % 8, r', by omega, b2, Nat.mod_lt _ (by decide), wI_same, ?_, ?_, wI_same, b8, fun k hk => ?_⟩
    · show (remQ (2 * (4 * i + e)) s' hh' μ).1 19 _ 1 = _
      unfold remQ; rw [wI_o (by omega), wI_o (by omega)]; exact b5
    · show (remQ (2 * (4 * i + e)) s' hh' μ).1 19 _ 2 = _
      unfold remQ; rw [wI_o (by omega)]; exact wI_same
    · rw [co (by omega)]
      have := b9 (k + 1) (by omega)
      show (wI (shQ e 13 (s' - 1) ν) 27 0 (560 + 35 * e + 11) (nI (s' - 1))).1 27 0 (560 + 35 * e + (13 + k)) = μ.1 20 (2 * (4 * i + e)) (((hh' + 1) % 8 + k) % 8)
      rw [wI_o (by omega), show ((hh' + 1) % 8 + k) % 8 = (hh' + (k + 1)) % 8 by omega, ← this]
      exact if_pos ⟨rfl, rfl, by omega, by omega⟩
  · show (wI (shQ e 13 (s' - 1) ν) 27 0 (560 + 35 * e + 11) (nI (s' - 1))).1 27 0 (108 + a) = _
    rw [mo (by omega), co (by omega)]; exact ha a ha'
  · rw [mo (by omega), co (by omega)]; exact hr1
  · rw [mo (by omega), co (by omega)]; exact hr2
  · rw [mo (by omega), co (by omega)]; exact hx
  · exact rpn_congr (co (by omega)) (co (by omega)) (fun n _ => mo (by omega)) hp
end
