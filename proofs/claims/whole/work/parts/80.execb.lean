section
variable {p i e cnt : Nat} {nx : Int32} {μ0 ν0 μ ν : Mem} {w : Bool}
theorem rt_gc (h : RT i e cnt nx μ0 ν0 μ ν w) {k : Nat} (hk : k < 6) : tN ν (560 + 35 * e + (29 + k)) = μ.1 21 (4 * i + e) k := h.2.2.2.1.2.2.2.1 k hk
theorem m_note (he : e < 4) {k : Nat} (hk : k < 6) : fX13_note 0 (nI e) (nI k) ν = some ((), wI ν 27 0 (560 + 35 * e + (29 + k)) (tN ν (560 + 35 * e + (29 + k)) + 1)) := by
  unfold fX13_note
  rw [show (29 : Int32) = nI 29 from rfl, nI_add, r_add (by omega), bnd_some]
/-- counting, both -/
theorem pr_note (h : RT i e cnt nx μ0 ν0 μ ν w) (he : e < 4) {k : Nat} (hk : 0 < k ∧ k < 6) : fX13_note 0 (nI e) (nI k) ν = some ((), wI ν 27 0 (560 + 35 * e + (29 + k)) (μ.1 21 (4 * i + e) k + 1)) ∧ RT i e cnt nx μ0 ν0 (wI μ 21 (4 * i + e) k (μ.1 21 (4 * i + e) k + 1)) (wI ν 27 0 (560 + 35 * e + (29 + k)) (μ.1 21 (4 * i + e) k + 1)) w :=
  ⟨by rw [m_note he hk.2, rt_gc h hk.2], rt_cnt hk h⟩
theorem m_setE (he : e < 4) {k : Nat} {v : Int32} (hk : k < 34) : fX13_set 0 (nI e) (nI (k + 1)) v ν = some ((), wI ν 27 0 (560 + 35 * e + (k + 1)) v) := r_set (by omega)
theorem rt_isr (h : RT i e cnt nx μ0 ν0 μ ν w) {v f : Int32} (hf : ∃ n : Nat, n ≤ 32 ∧ f = nI n) : RT i e cnt nx μ0 ν0 (wI (wI μ 18 (4 * i + e) 3 v) 18 (4 * i + e) 5 f) (wI (wI ν 27 0 (560 + 35 * e + (3 + 1)) v) 27 0 (560 + 35 * e + (5 + 1)) f) w :=
  rt_w (k := 5) (by decide) (fun _ => hf) (fun q => by omega) (fun q => by omega) (rt_w (k := 3) (by decide) (fun q => by omega) (fun q => by omega) (fun q => by omega) h)
theorem rt_osr (h : RT i e cnt nx μ0 ν0 μ ν w) {v : Int32} : RT i e cnt nx μ0 ν0 (wI (wI μ 18 (4 * i + e) 4 v) 18 (4 * i + e) 6 0) (wI (wI ν 27 0 (560 + 35 * e + (4 + 1)) v) 27 0 (560 + 35 * e + (6 + 1)) 0) w :=
  rt_w (k := 6) (by decide) (fun _ => ⟨0, by decide, rfl⟩) (fun q => by omega) (fun q => by omega) (rt_w (k := 4) (by decide) (fun q => by omega) (fun q => by omega) (fun q => by omega) h)
theorem m_isr (he : e < 4) {v f : Int32} {α : Type} {k : Mem → Option α} : (bnd (fX13_set 0 (nI e) 4 v ν) fun _ μ1 => bnd (fX13_set 0 (nI e) 6 f μ1) fun _ μ2 => k μ2) = k (wI (wI ν 27 0 (560 + 35 * e + (3 + 1)) v) 27 0 (560 + 35 * e + (5 + 1)) f) := by
  have e1 : ∀ ν : Mem, fX13_set 0 (nI e) 4 v ν = _ := fun ν => m_setE (k := 3) he (by decide)
  have e2 : ∀ ν : Mem, fX13_set 0 (nI e) 6 f ν = _ := fun ν => m_setE (k := 5) he (by decide)
  rw [e1, bnd_some, e2, bnd_some]
theorem m_osr (he : e < 4) {v : Int32} {α : Type} {k : Mem → Option α} : (bnd (fX13_set 0 (nI e) 5 v ν) fun _ μ1 => bnd (fX13_set 0 (nI e) 7 0 μ1) fun _ μ2 => k μ2) = k (wI (wI ν 27 0 (560 + 35 * e + (4 + 1)) v) 27 0 (560 + 35 * e + (6 + 1)) 0) := by
  have e1 : ∀ ν : Mem, fX13_set 0 (nI e) 5 v ν = _ := fun ν => m_setE (k := 4) he (by decide)
  have e2 : ∀ ν : Mem, fX13_set 0 (nI e) 7 0 ν = _ := fun ν => m_setE (k := 6) he (by decide)
  rw [e1, bnd_some, e2, bnd_some]
theorem c_isr {j : Nat} {v f : Int32} : fX1_setIsr j v f μ = some ((), wI (wI μ 18 j 3 v) 18 j 5 f) := rfl
theorem c_osr {j : Nat} {v : Int32} : fX1_setOsr j v μ = some ((), wI (wI μ 18 j 4 v) 18 j 6 0) := rfl
theorem m_empty (he : e < 4) : fX13_emptyShifted 0 (nI e) ν = some ((), wI (wI ν 27 0 (560 + 35 * e + (3 + 1)) 0) 27 0 (560 + 35 * e + (5 + 1)) 0) := m_isr he
theorem m_appendO (he : e < 4) {s : Nat} {v : Int32} (h1 : tN ν (560 + 35 * e + 12) = nI s) (hs : s < 8) : fX13_append 0 (nI e) 1 v ν = some ((), appE e s v ν) := by
  unfold fX13_append
  simp only [jn_eq]
  rw [if_neg (by decide), if_neg (by decide), show (12 : Int32) = nI 12 from rfl, r_of (by omega), bnd_some, h1, show (21 : Int32) = nI 21 from rfl, nI_add, r_set (by omega), bnd_some, r_add (by omega), bnd_some]
  have e1 : tN (wI ν 27 0 (560 + 35 * e + (21 + s)) v) (560 + 35 * e + 12) = nI s := by
    rw [tN_o (by omega)]; exact h1
  rw [e1, nI_1]
  rfl
theorem pr_pushIsr (h : RT i e cnt nx μ0 ν0 μ ν w) (he : e < 4) {s r : Nat} (q1 : μ.1 19 (2 * (4 * i + e) + 1) 0 = nI s) (q2 : μ.1 19 (2 * (4 * i + e) + 1) 1 = nI r) (hsr : s < r) (hr : r ≤ 8) :
    ∃ μ' ν', fX1_pushIsr (4 * i + e) μ = some ((), μ') ∧ fX13_appendShifted 0 (nI e) ν = some ((), ν') ∧ RT i e cnt nx μ0 ν0 μ' ν' w := by
  obtain ⟨s', hh, r', b1, b2, b3, b4, b5, b6, b7, b8, b9⟩ := rt_outq h
  have es : s' = s := nI_inj (by omega) (by omega) (b4.symm.trans q1)
  have er : r' = r := nI_inj (by omega) (by omega) (b5.symm.trans q2)
  subst es er
  have h1 := rt_app (v := μ.1 18 (4 * i + e) 3) b4 b5 b6 hsr hr b3 h
  obtain ⟨n1, h2⟩ := pr_note h1 he (k := 3) (by decide)
  have h3 := rt_isr (v := 0) (f := 0) h2 ⟨0, by decide, rfl⟩
  refine ⟨_, _, ?_, ?_, h3⟩
  · unfold fX1_pushIsr
    rw [c_append b4 b5 b6 hsr hr b3, bnd_some, ckI_at (i := 3) (by decide), ckI_at (i := 3) (by decide), nm_eq, c_isr, bnd_some]
    rfl
  · unfold fX13_appendShifted
    have n1' : fX13_note 0 (nI e) 3 _ = _ := n1
    rw [of4 h he, bnd_some, m_appendO he b7 (by omega), bnd_some, n1', bnd_some, m_empty he, bnd_some]
theorem pr_pullOsr (h : RT i e cnt nx μ0 ν0 μ ν w) (he : e < 4) (q1 : ¬ μ.1 19 (2 * (4 * i + e)) 0 = 0) (fu : Nat) :
    ∃ μ' ν', fX1_pullOsr (4 * i + e) μ = some ((), μ') ∧ fX13_refill (fu + 8) 0 (nI e) ν = some ((), ν') ∧ RT i e cnt nx μ0 ν0 μ' ν' w := by
  obtain ⟨s, hh, r, b1, b2, b3, b4, b5, b6, b7, b8, b9⟩ := rt_inq h
  have hs : 0 < s := Nat.pos_of_ne_zero (fun q => q1 (by rw [b4, q]; rfl))
  obtain ⟨h1, ew⟩ := rt_rem b4 b6 hs (by omega) b3 h
  have h2 := rt_osr (v := μ.1 20 (2 * (4 * i + e)) hh) h1
  obtain ⟨n1, h3⟩ := pr_note h2 he (k := 4) (by decide)
  refine ⟨_, _, ?_, ?_, h3⟩
  · unfold fX1_pullOsr
    rw [c_first b4 b6 hs (by omega) b3, bnd_some, c_osr, bnd_some, ckI_at (i := 4) (by decide), ckI_at (i := 4) (by decide), nm_eq]
    rfl
  · unfold fX13_refill
    have n1' : fX13_note 0 (nI e) 4 _ = _ := n1
    rw [m_first (y := 0) he (Or.inl ⟨rfl, rfl, rfl⟩) b7 hs (by omega) fu, bnd_some, ew, m_osr he, n1', bnd_some]
/-! the pairs of instructions: reasons alike -/
def PR (i e cnt : Nat) (nx : Int32) (μ0 ν0 : Mem) (fc fr : Option (Int32 × Mem)) : Prop := ∃ n μ' ν', n ≤ 5 ∧ fc = some (nI n, μ') ∧ fr = some (nI n, ν') ∧ RT i e cnt nx μ0 ν0 μ' ν' true
theorem pr_done {μ' ν' : Mem} {fc fr : Option (Int32 × Mem)} (a : fc = some (0, μ')) (b : fr = some (0, ν')) (h : RT i e cnt nx μ0 ν0 μ' ν' true) : PR i e cnt nx μ0 ν0 fc fr := ⟨0, μ', ν', by decide, a, b, h⟩
theorem pr_at {n : Nat} {μ' ν' : Mem} {fc fr : Option (Int32 × Mem)} (hn : n ≤ 5) (a : fc = some (nI n, μ')) (b : fr = some (nI n, ν')) (h : RT i e cnt nx μ0 ν0 μ' ν' true) : PR i e cnt nx μ0 ν0 fc fr := ⟨n, μ', ν', hn, a, b, h⟩
theorem sub1 {x : Int32} : x + -1 = x - 1 := by rw [Int32.sub_eq_add_neg]
theorem sub1_m1 {x : Int32} : x - 1 = -1 ↔ x = 0 := by
  constructor
  · intro h
    have : x - 1 + 1 = -1 + 1 := by rw [h]
    rw [Int32.sub_add_cancel] at this
    rw [this]; rfl
  · intro h; rw [h]; rfl
theorem b2_ite {c : Prop} [Decidable c] : (if c then (0 : Int32) else 1) = b2 (decide (¬ c)) := by
  by_cases h : c <;> simp [h, b2]
theorem pr_holds (B : BS p i e cnt μ0 ν0) (h : RT i e cnt nx μ0 ν0 μ ν w) {c : Nat} (hc : c ≤ 7) :
    ∃ b μ' ν', fX9_holds 0 (if c = 0 then 0 else 42 + c) (4 * i + e) (4 * p + e) μ = some (b2 b, μ') ∧ fX13_holds 0 (nI e) (nI c) ν = some (b2 b, ν') ∧ RT i e cnt nx μ0 ν0 μ' ν' w ∧ ν'.1 26 0 19 = ν.1 26 0 19 ∧ μ'.1 18 (4 * i + e) 0 = μ.1 18 (4 * i + e) 0 := by
  have he : e < 4 := B.1.2.2.1
  have hS := B.2.2.2.1
  unfold fX9_holds fX13_holds
  simp only [jn_eq]
  have dec : ∀ k : Nat, k = 1 ∨ k = 2 → ∀ v, v = μ.1 18 (4 * i + e) k - 1 → RT i e cnt nx μ0 ν0 (wI μ 18 (4 * i + e) k v) (wI ν 27 0 (560 + 35 * e + (k + 1)) v) w := fun k hk v _ => rt_w (by omega) (fun q => by omega) (fun q => by omega) (fun q => by omega) h
  have mdec : ∀ k : Nat, k = 1 ∨ k = 2 → fX13_decrease 0 (nI e) (nI (k + 1)) ν = some (b2 (decide (¬ μ.1 18 (4 * i + e) k = 0)), wI ν 27 0 (560 + 35 * e + (k + 1)) (μ.1 18 (4 * i + e) k - 1)) := fun k hk => by
    unfold fX13_decrease
    simp only [jn_eq]
    rw [rt_of h he (by omega), bnd_some]
    have ea : fX13_add 0 (nI e) (nI (k + 1)) (-1) ν = some ((), wI ν 27 0 (560 + 35 * e + (k + 1)) (μ.1 18 (4 * i + e) k - 1)) := by rw [r_add (by omega), rt_get h (by omega), sub1]
    by_cases h0 : μ.1 18 (4 * i + e) k = 0
    · rw [if_pos h0, ea, bnd_some, ckZ_ok (Or.inl rfl), decide_eq_false (fun q => q h0)]; rfl
    · rw [if_neg h0, ea, bnd_some, ckZ_ok (Or.inr rfl), decide_eq_true h0]; rfl
  have : c = 0 ∨ c = 1 ∨ c = 2 ∨ c = 3 ∨ c = 4 ∨ c = 5 ∨ c = 6 ∨ c = 7 := by omega
  rcases this with rfl | rfl | rfl | rfl | rfl | rfl | rfl | rfl
  · refine ⟨true, μ, ν, (sw_at (v := 0) (by decide)).trans rfl, rfl, h, rfl, rfl⟩
  · refine ⟨decide (μ.1 18 (4 * i + e) 1 = 0), μ, ν, (sw_at (v := 12) (by decide)).trans ?_, ?_, h, rfl, rfl⟩
    · rw [if_pos (by decide)]
      by_cases h0 : μ.1 18 (4 * i + e) 1 = 0
      · rw [if_neg (fun q => q h0), decide_eq_true h0]; rfl
      · rw [if_pos h0, decide_eq_false h0]; rfl
    · rw [if_neg (by decide), if_pos (by decide), of2 h he, bnd_some]
      by_cases h0 : μ.1 18 (4 * i + e) 1 = 0
      · rw [if_neg (fun q => q h0), decide_eq_true h0]; rfl
      · rw [if_pos h0, decide_eq_false h0]; rfl
  · refine ⟨decide (μ.1 18 (4 * i + e) 2 = 0), μ, ν, (sw_at (v := 13) (by decide)).trans ?_, ?_, h, rfl, rfl⟩
    · rw [if_neg (by decide), if_pos (by decide)]
      by_cases h0 : μ.1 18 (4 * i + e) 2 = 0
      · rw [if_neg (fun q => q h0), decide_eq_true h0]; rfl
      · rw [if_pos h0, decide_eq_false h0]; rfl
    · rw [if_neg (by decide), if_neg (by decide), if_pos (by decide), of3 h he, bnd_some]
      by_cases h0 : μ.1 18 (4 * i + e) 2 = 0
      · rw [if_neg (fun q => q h0), decide_eq_true h0]; rfl
      · rw [if_pos h0, decide_eq_false h0]; rfl
  · refine ⟨decide (¬ μ.1 18 (4 * i + e) 1 = 0), _, _, (sw_at (v := 14) (by decide)).trans ?_, ?_, dec 1 (Or.inl rfl) _ rfl, wI_o (by omega), wI_o (by omega)⟩
    · rw [if_neg (by decide), if_neg (by decide), if_pos (by decide), nm_eq, wI_same]
      by_cases h0 : μ.1 18 (4 * i + e) 1 = 0
      · rw [if_pos (sub1_m1.mpr h0), decide_eq_false (fun q => q h0)]; rfl
      · rw [if_neg (fun q => h0 (sub1_m1.mp q)), decide_eq_true h0]; rfl
    · have md : fX13_decrease 0 (nI e) 2 ν = _ := mdec 1 (Or.inl rfl)
      rw [if_neg (by decide), if_neg (by decide), if_neg (by decide), if_pos (by decide), md, bnd_some, ckZ_ok (b2_c _)]
  · refine ⟨decide (¬ μ.1 18 (4 * i + e) 2 = 0), _, _, (sw_at (v := 15) (by decide)).trans ?_, ?_, dec 2 (Or.inr rfl) _ rfl, wI_o (by omega), wI_o (by omega)⟩
    · rw [if_neg (by decide), if_neg (by decide), if_neg (by decide), if_pos (by decide), nm_eq, wI_same]
      by_cases h0 : μ.1 18 (4 * i + e) 2 = 0
      · rw [if_pos (sub1_m1.mpr h0), decide_eq_false (fun q => q h0)]; rfl
      · rw [if_neg (fun q => h0 (sub1_m1.mp q)), decide_eq_true h0]; rfl
    · have md : fX13_decrease 0 (nI e) 3 ν = _ := mdec 2 (Or.inr rfl)
      rw [if_neg (by decide), if_neg (by decide), if_neg (by decide), if_neg (by decide), if_pos (by decide), md, bnd_some, ckZ_ok (b2_c _)]
  · refine ⟨decide (¬ μ.1 18 (4 * i + e) 1 = μ.1 18 (4 * i + e) 2), μ, ν, (sw_at (v := 16) (by decide)).trans ?_, ?_, h, rfl, rfl⟩
    · rw [if_neg (by decide), if_neg (by decide), if_neg (by decide), if_neg (by decide), if_pos (by decide)]
      by_cases h0 : μ.1 18 (4 * i + e) 1 = μ.1 18 (4 * i + e) 2
      · rw [if_pos h0, decide_eq_false (fun q => q h0)]; rfl
      · rw [if_neg h0, decide_eq_true h0]; rfl
    · rw [if_neg (by decide), if_neg (by decide), if_neg (by decide), if_neg (by decide), if_neg (by decide), if_pos (by decide), of2 h he, bnd_some, of3 h he, bnd_some]
      by_cases h0 : μ.1 18 (4 * i + e) 1 = μ.1 18 (4 * i + e) 2
      · rw [if_pos h0, decide_eq_false (fun q => q h0)]; rfl
      · rw [if_neg h0, decide_eq_true h0]; rfl
  · obtain ⟨n, hn, n1, n2⟩ := hS.2.2.2.2.2.2.2.2.1
    refine ⟨bt (μ0.1 22 0 2) n, μ, ν, (sw_at (v := 17) (by decide)).trans ?_, ?_, h, rfl, rfl⟩
    · rw [if_neg (by decide), if_neg (by decide), if_neg (by decide), if_neg (by decide), if_neg (by decide), if_pos (by decide), rt_lv h, rt_8 h, n2, bit_at (by omega)]
      cases bt (μ0.1 22 0 2) n <;> rfl
    · have es : fX13_setting 0 (nI e) 12 ν = some (nI n, ν) := st_of h he (f := 12) (by decide) n1
      rw [if_neg (by decide), if_neg (by decide), if_neg (by decide), if_neg (by decide), if_neg (by decide), if_neg (by decide), if_pos (by decide), es, bnd_some, ckI_nI (by exact hn) (by decide), nI_clamp (by omega), rt_L h (by decide), B.2.2.2.2.1 n hn]
      cases bt (μ0.1 22 0 2) n <;> rfl
  · obtain ⟨n, hn1, hn, n1, n2⟩ := hS.2.2.2.2.2.2.2.2.2.2.2.2.2.2.1
    refine ⟨decide (¬ nI n ≤ μ.1 18 (4 * i + e) 6), μ, ν, (sw_at (v := 18) (by decide)).trans ?_, ?_, h, rfl, rfl⟩
    · rw [if_neg (by decide), if_neg (by decide), if_neg (by decide), if_neg (by decide), if_neg (by decide), if_neg (by decide), if_pos (by decide), rt_8 h, n2]
      by_cases h0 : nI n ≤ μ.1 18 (4 * i + e) 6
      · rw [if_pos h0, decide_eq_false (fun q => q h0)]; rfl
      · rw [if_neg h0, decide_eq_true h0]; rfl
    · have es : fX13_setting 0 (nI e) 17 ν = some (nI n, ν) := st_of h he (f := 17) (by decide) n1
      rw [if_neg (by decide), if_neg (by decide), if_neg (by decide), if_neg (by decide), if_neg (by decide), if_neg (by decide), if_neg (by decide), of7 h he, bnd_some, es, bnd_some]
      by_cases h0 : nI n ≤ μ.1 18 (4 * i + e) 6
      · rw [if_pos h0, decide_eq_false (fun q => q h0)]; rfl
      · rw [if_neg h0, decide_eq_true h0]; rfl
end
