theorem nnT : ¬ ¬ True := fun q => q trivial
theorem wI_id {μ : Mem} {κ n k : Nat} : wI μ κ n k (μ.1 κ n k) = μ := by
  refine Prod.ext (funext fun a => funext fun b => funext fun c => ?_) rfl
  rw [wI_at]
  by_cases hh : a = κ ∧ b = n ∧ c = k
  · obtain ⟨rfl, rfl, rfl⟩ := hh; rw [if_pos ⟨rfl, rfl, rfl⟩]
  · rw [if_neg hh]
theorem b2_nI {b : Bool} {a : Nat} (ha : a ≤ 1) : (b2 b = nI a) ↔ b = decide (a = 1) := by
  have : a = 0 ∨ a = 1 := by omega
  rcases this with rfl | rfl <;> cases b <;> decide
section
variable {p i e cnt a : Nat} {nx : Int32} {μ0 ν0 μ ν : Mem} {w : Bool}
/-- the instruction at a: its cells, as read in the tick -/
theorem ins_r (h : RT i e cnt nx μ0 ν0 μ ν w) {n k s : Nat} (hs : μ0.2.1 9 n k = s) : μ.2.1 9 n k = s := (rt_r h).trans hs
theorem ins_n (h : RT i e cnt nx μ0 ν0 μ ν w) {n k : Nat} {v : Int32} (hs : μ0.1 9 n k = v) : μ.1 9 n k = v := (rt_9 h).trans hs
theorem pr_jump (B : BS p i e cnt μ0 ν0) (h : RT i e cnt nx μ0 ν0 μ ν w) (ha : a < cnt) (hpc : μ.1 18 (4 * i + e) 0 = nI a) (hj : ν.1 26 0 19 = -1) {c b : Nat} (hc : c ≤ 7) (hb : b < cnt) (p2 : tN ν0 (284 + 6 * a + 2) = nI b) (i2 : μ0.2.1 9 (33 * p + a) 2 = (if c = 0 then 0 else 42 + c)) (i5 : μ0.1 9 (33 * p + a) 5 = nI b) :
    PR i e cnt nx μ0 ν0 (nm (μ.2.1 9 (33 * p + a) 2) fun a6 => ckB a6 74 <| bnd (fX9_holds 0 a6 (4 * i + e) (4 * p + e) μ) fun x9 μ8 => if x9 = 0 then some ((0 : Int32), μ8) else nm (wI μ8 22 0 6 (μ8.1 9 (33 * p + a) 5)) fun μ11 => some ((0 : Int32), μ11)) (fX13_jump 0 (nI e) (nI c) ν) := by
  have he : e < 4 := B.1.2.2.1
  have hcn : cnt ≤ 32 := B.2.1.2.1
  obtain ⟨bb, μ1, ν1, e1, e2, h1, k19, k0⟩ := pr_holds B h hc
  unfold fX13_jump
  simp only [jn_eq, nm_eq]
  have hs : (if c = 0 then 0 else 42 + c) < 74 := by split <;> omega
  rw [ins_r h i2, ckB_ok hs, e1, e2, bnd_some, bnd_some]
  cases bb
  · refine pr_done (if_pos rfl) (if_pos rfl) (rt_true (rt_stay (k19.trans hj) h1))
  · have ec : fX13_codeOf 0 (nI e) 2 ν1 = some (nI b, ν1) := cd_of h1 he (a := a) (f := 2) (by omega) (by decide) (k0.trans hpc) p2
    refine pr_done (if_neg (by decide)) ((if_neg (by decide)).trans (by rw [ec, bnd_some])) (rt_true (w := w) ?_)
    rw [ins_n h1 i5]
    exact rt_next hb h1
theorem pr_wait (B : BS p i e cnt μ0 ν0) (h : RT i e cnt nx μ0 ν0 μ ν w) (ha : a < cnt) (hpc : μ.1 18 (4 * i + e) 0 = nI a) {aw f n : Nat} (haw : aw ≤ 1) (hf : f ≤ 1) (hn : n < (if f = 1 then 8 else 16)) (p2 : tN ν0 (284 + 6 * a + 2) = nI f) (p3 : tN ν0 (284 + 6 * a + 3) = nI n)
    (i1 : μ0.1 9 (33 * p + a) 1 = nI aw) (i2 : μ0.2.1 9 (33 * p + a) 2 = (if f = 1 then 50 else 48)) (i5 : μ0.1 9 (33 * p + a) 5 = nI n) : PR i e cnt nx μ0 ν0 (fX9_awaitLevel 0 (33 * p + a) (4 * p + e) μ) (fX13_waitFor 0 (nI e) (nI aw) ν) := by
  have he : e < 4 := B.1.2.2.1
  have hcn : cnt ≤ 32 := B.2.1.2.1
  have c3 : fX13_codeOf 0 (nI e) 3 ν = some (nI n, ν) := cd_of h he (a := a) (f := 3) (by omega) (by decide) hpc p3
  have c2 : fX13_codeOf 0 (nI e) 2 ν = some (nI f, ν) := cd_of h he (a := a) (f := 2) (by omega) (by decide) hpc p2
  unfold fX9_awaitLevel fX13_waitFor
  simp only [jn_eq, nm_eq]
  rw [ins_r h i2, c3, bnd_some, c2, bnd_some, ckB_ok (by split <;> omega)]
  have : f = 0 ∨ f = 1 := by omega
  rcases this with rfl | rfl
  · obtain ⟨b, hb, b1, b2'⟩ := B.2.2.2.1.2.2.2.2.2.2.2.1
    have es : fX13_setting 0 (nI e) 11 ν = some (nI b, ν) := st_of h he (f := 11) (by decide) b1
    have hn16 : n < 16 := hn
    have hm : (b + n) % 16 < 16 := Nat.mod_lt _ (by decide)
    rw [if_neg (show ¬ ¬ (if 0 = 1 then 50 else 48) = 48 by decide), if_pos (show ¬ nI 0 = 1 by decide), if_pos trivial, es, bnd_some, if_pos trivial, ins_n h i5, ins_n h i1, rt_8 h, b2', rt_lv h]
    simp only [nI_add]
    rw [show (16 : Int32) = nI 16 from rfl, ckD_ok (by decide), ckD_ok (by decide), remN (by omega) (by decide) (by decide), ckI_nI (by exact hm) (by decide), nI_clamp (by omega), rt_L h (by decide), B.2.2.2.2.1 _ hm, show (1 : Int32) = nI 1 from rfl]
    have eb : ∀ z : Int32, (z >>> (nI ((b + n) % 16) &&& 31)) &&& nI 1 = b2 (bt z ((b + n) % 16)) := fun z => bit_at (by omega)
    rw [eb]
    by_cases hq : b2 (bt (μ0.1 22 0 2) ((b + n) % 16)) = nI aw
    · rw [if_neg (fun q => q hq), if_pos hq, or0, wI_id]
      exact pr_done rfl rfl (rt_true h)
    · rw [if_pos hq, if_neg hq]
      exact pr_at (n := 1) (by decide) rfl rfl (rt_true h)
  · have hn8 : n < 8 := hn
    rw [if_pos (show ¬ (if 1 = 1 then 50 else 48) = 48 by decide), if_neg (show ¬ ¬ nI 1 = 1 by decide), if_neg ne10, if_neg ne10, ins_n h i5, ins_n h i1, rt_fl h, ckI_nI (by exact hn8) (by decide), nI_clamp (by omega), rt_L h (by decide), B.2.2.2.2.2 _ hn8]
    have eb : ∀ z : Int32, (z >>> (nI n &&& 31)) &&& 1 = b2 (bt z n) := fun z => bit_at (by omega)
    rw [eb]
    by_cases hq : b2 (bt (μ0.1 22 0 3) n) = nI aw
    · rw [if_pos hq, if_pos hq]
      by_cases h1 : nI aw = 1
      · rw [if_neg (fun q => q h1), if_neg (fun q => q h1)]
        refine pr_done rfl rfl (rt_true (w := w) ?_)
        rw [h.2.2.2.2.2.1.2]
        exact rt_clear h
      · rw [if_pos h1, if_pos h1, or0, wI_id]
        exact pr_done rfl rfl (rt_true h)
    · rw [if_neg hq, if_neg hq]
      exact pr_at (n := 1) (by decide) rfl rfl (rt_true h)
theorem pr_signal (B : BS p i e cnt μ0 ν0) (h : RT i e cnt nx μ0 ν0 μ ν w) {n : Nat} (hn : n < 8) (i5 : μ0.1 9 (33 * p + a) 5 = nI n) : PR i e cnt nx μ0 ν0 (fX9_signal 0 (33 * p + a) (4 * i + e) μ) (fX13_signal 0 (nI e) (nI n) ν) := by
  have he : e < 4 := B.1.2.2.1
  unfold fX9_signal fX13_signal
  simp only [jn_eq, nm_eq]
  rw [of9 h he, bnd_some, ins_n h i5]
  by_cases hs : μ.1 18 (4 * i + e) 8 = 0
  · rw [if_neg (fun q => q hs), if_neg (fun q => q hs), h.2.2.2.2.2.1.1]
    exact pr_at (n := 5) (by decide) rfl rfl (rt_true (rt_raise h))
  · rw [if_pos hs, if_pos hs, ckI_nI (by exact hn) (by decide), nI_clamp (by omega), rt_L h (by decide), B.2.2.2.2.2 _ hn, rt_fl h, bit_at (by omega)]
    by_cases hq : b2 (bt (μ0.1 22 0 3) n) = 0
    · rw [if_neg (fun q => q hq), if_neg (fun q => q hq)]
      exact pr_done rfl rfl (rt_true h)
    · rw [if_pos hq, if_pos hq]
      exact pr_at (n := 5) (by decide) rfl rfl (rt_true h)
/-! shifting -/
theorem m_lowest {v : Int32} {n : Nat} (hn : n ≤ 32) : fX13_lowest v (nI n) ν = some (if n = 32 then v else v &&& (((1 : Int32) <<< (nI n &&& 31)) - 1), ν) := by
  unfold fX13_lowest
  simp only [jn_eq]
  by_cases h : n = 32
  · rw [if_pos h, if_neg (fun q => q (by rw [h]; rfl))]
  · have hh : ¬ nI n = (32 : Int32) := fun q => h (nI_inj (by omega) (by decide) q)
    rw [if_neg h, if_pos hh]
theorem shl_low {v : Int32} {n : Nat} (h1 : 1 ≤ n) (h : n < 32) : (v &&& (((1 : Int32) <<< (nI n &&& 31)) - 1)) <<< (((32 : Int32) - nI n) &&& 31) = v <<< (((32 : Int32) - nI n) &&& 31) := by
  rw [show (32 : Int32) = nI 32 from rfl, pk_sub (by omega)]
  refine bt_ext fun q hq => ?_
  rw [bt_shl32 (by omega) hq, bt_shl32 (by omega) hq, bt_and]
  by_cases hh : 32 - n ≤ q
  · rw [low_mask h (by omega), decide_eq_true (show q - (32 - n) < n by omega), Bool.and_true]
  · rw [decide_eq_false hh]; rfl
theorem ushr_0 {v : Int32} : (v.toUInt32 >>> ((nI 0).toUInt32 &&& Int32.toUInt32 31)).toInt32 = v := bt_ext fun q _ => bt_ushr (by decide)
theorem min_c {f n : Nat} (hf : f ≤ 32) (hn : n ≤ 32) : (if (32 : Int32) < nI f + nI n then (32 : Int32) else nI f + nI n) = nI (if 32 < f + n then 32 else f + n) := by
  rw [nI_add, show (32 : Int32) = nI 32 from rfl]
  by_cases h : 32 < f + n
  · rw [if_pos (nI_lt h (by omega)), if_pos h]
  · rw [if_neg (nI_nlt (by omega) (by omega)), if_neg h]
theorem min_m {f n : Nat} (hf : f ≤ 32) (hn : n ≤ 32) : (if nI f + nI n < (32 : Int32) then nI f + nI n else (32 : Int32)) = nI (if 32 < f + n then 32 else f + n) := by
  rw [nI_add, show (32 : Int32) = nI 32 from rfl]
  by_cases h : f + n < 32
  · rw [if_pos (nI_lt h (by omega)), if_neg (by omega)]
  · rw [if_neg (nI_nlt (by omega) (by omega))]
    split
    · rfl
    · congr 1; omega
theorem m_isFullO (he : e < 4) {s r : Nat} (h1 : tN ν (560 + 35 * e + 12) = nI s) (h2 : tN ν (476 + 21 * e + 20) = nI r) (hs : s ≤ 8) (hr : r ≤ 8) : fX13_isFull 0 (nI e) 1 ν = some (if s < r then 0 else 1, ν) := by
  unfold fX13_isFull
  simp only [jn_eq]
  rw [if_neg (by decide), show (12 : Int32) = nI 12 from rfl, r_of (by omega), bnd_some, if_neg (by decide), show (20 : Int32) = nI 20 from rfl, r_setting (by omega), bnd_some, h1, h2]
  by_cases h : s < r
  · rw [if_pos (nI_lt h (by omega)), if_pos h]; exact ckZ_ok (Or.inl rfl)
  · rw [if_neg (nI_nlt (by omega) (by omega)), if_neg h]; exact ckZ_ok (Or.inr rfl)
/-- whether the queue out is full, both -/
theorem pr_full (h : RT i e cnt nx μ0 ν0 μ ν w) (he : e < 4) : ∃ s r : Nat, s ≤ r ∧ r ≤ 8 ∧ μ.1 19 (2 * (4 * i + e) + 1) 0 = nI s ∧ μ.1 19 (2 * (4 * i + e) + 1) 1 = nI r ∧ fX7_isFull (2 * (4 * i + e) + 1) μ = some (if s < r then 0 else 1, μ) ∧ fX13_isFull 0 (nI e) 1 ν = some (if s < r then 0 else 1, ν) := by
  obtain ⟨s, hh, r, b1, b2, b3, b4, b5, b6, b7, b8, b9⟩ := rt_outq h
  exact ⟨s, r, b1, b2, b4, b5, c_isFull b4 b5 (by omega) b2, m_isFullO he b7 ((rt_S h he (by decide)).trans b8) (by omega) b2⟩
theorem rt_fill (h : RT i e cnt nx μ0 ν0 μ ν w) : ∃ n : Nat, n ≤ 32 ∧ μ.1 18 (4 * i + e) 5 = nI n := by
  obtain ⟨n, h1, h2⟩ := h.2.2.2.1.2.2.2.2.1
  exact ⟨n, h1, (rt_get h (k := 5) (by decide)).symm.trans h2⟩
theorem rt_spent (h : RT i e cnt nx μ0 ν0 μ ν w) : ∃ n : Nat, n ≤ 32 ∧ μ.1 18 (4 * i + e) 6 = nI n := by
  obtain ⟨n, h1, h2⟩ := h.2.2.2.1.2.2.2.2.2.1
  exact ⟨n, h1, (rt_get h (k := 6) (by decide)).symm.trans h2⟩
theorem pr_inTail (h : RT i e cnt nx μ0 ν0 μ ν w) (he : e < 4) {v : Int32} {f : Nat} (hf : f ≤ 32) (b : Bool) (hb : b = true → ∃ s r : Nat, s < r ∧ r ≤ 8 ∧ μ.1 19 (2 * (4 * i + e) + 1) 0 = nI s ∧ μ.1 19 (2 * (4 * i + e) + 1) 1 = nI r) :
    PR i e cnt nx μ0 ν0 (bnd (fX1_setIsr (4 * i + e) v (nI f) μ) fun _ μ14 => if b2 b = 0 then some ((0 : Int32), μ14) else bnd (fX1_pushIsr (4 * i + e) μ14) fun _ μ11 => some ((0 : Int32), μ11))
      (bnd (fX13_set 0 (nI e) 4 v ν) fun _ μ13 => bnd (fX13_set 0 (nI e) 6 (nI f) μ13) fun _ μ14 => if b2 b = 0 then some ((0 : Int32), μ14) else bnd (fX13_appendShifted 0 (nI e) μ14) fun _ μ16 => some ((0 : Int32), μ16)) := by
  have h1 := rt_isr (v := v) (f := nI f) h ⟨f, hf, rfl⟩
  rw [c_isr, bnd_some, m_isr he]
  cases b
  · exact pr_done (if_pos rfl) (if_pos rfl) (rt_true h1)
  · obtain ⟨s, r, hsr, hr, q1, q2⟩ := hb rfl
    obtain ⟨μ', ν', e1, e2, h2⟩ := pr_pushIsr h1 he ((wI_o (by omega)).trans ((wI_o (by omega)).trans q1)) ((wI_o (by omega)).trans ((wI_o (by omega)).trans q2)) hsr hr
    rw [if_neg (by decide), if_neg (by decide), e1, e2, bnd_some, bnd_some]
    exact pr_done rfl rfl (rt_true h2)
theorem pr_shiftIn (B : BS p i e cnt μ0 ν0) (h : RT i e cnt nx μ0 ν0 μ ν w) {n s : Nat} {v : Int32} (hn1 : 1 ≤ n) (hn : n ≤ 32) (hs : s < 74) (i2 : μ0.2.1 9 (33 * p + a) 2 = s) (i5 : μ0.1 9 (33 * p + a) 5 = nI n) (hv : fX9_sourceWord 0 s (4 * i + e) (4 * p + e) μ = some (v, μ)) :
    PR i e cnt nx μ0 ν0 (fX9_shiftIn 0 (33 * p + a) (4 * i + e) (4 * p + e) μ) (fX13_shiftIn 0 (nI e) v (nI n) ν) := by
  have he : e < 4 := B.1.2.2.1
  obtain ⟨s13, s14, s16, s18, ⟨L, hL1, hL, l1, l2⟩, _⟩ := B.2.2.2.1.2.2.2.2.2.2.2.2.2
  obtain ⟨f, hf, f1⟩ := rt_fill h
  have es13 : fX13_setting 0 (nI e) 13 ν = some (μ0.1 8 (4 * p + e) 13, ν) := st_of h he (f := 13) (by decide) s13.1
  have es16 : fX13_setting 0 (nI e) 16 ν = some (μ0.1 8 (4 * p + e) 15, ν) := st_of h he (f := 16) (by decide) s16.1
  have es15 : fX13_setting 0 (nI e) 15 ν = some (nI L, ν) := st_of h he (f := 15) (by decide) l1
  have c13 : μ0.1 8 (4 * p + e) 13 = 0 ∨ μ0.1 8 (4 * p + e) 13 = 1 := by have := s13.2; rw [s13.1] at this; exact this
  have c15 : μ0.1 8 (4 * p + e) 15 = 0 ∨ μ0.1 8 (4 * p + e) 15 = 1 := by have := s16.2; rw [s16.1] at this; exact this
  obtain ⟨s', r, hsr, hr, q1, q2, f1', f2'⟩ := pr_full h he
  unfold fX9_shiftIn fX13_shiftIn
  simp only [jn_eq, nm_eq]
  rw [ins_r h i2, ckB_ok hs, hv, bnd_some, ins_n h i5, of4 h he, bnd_some, es13, bnd_some, m_lowest hn, bnd_some]
  simp only [rt_8 h, l2, f1', of6 h he, bnd_some, f1, min_c hf hn, min_m hf hn, es16, es15, f2', if_pos trivial, if_neg ne10]
  generalize hF : (if 32 < f + n then 32 else f + n) = F
  have hF32 : F ≤ 32 := by rw [← hF]; split <;> omega
  have tail := fun (x : Int32) (b : Bool) hb => pr_inTail (v := x) h he hF32 b hb
  -- the word is the same
  by_cases h32 : n = 32
  · subst h32
    have n1 : ¬ ¬ nI 32 = (32 : Int32) := fun q => q rfl
    simp only [if_neg n1, if_pos trivial]
    have t0 := tail v false (fun q => Bool.noConfusion q)
    rcases c15 with z | z <;> rcases c13 with y | y <;> simp only [z, y, if_pos trivial, if_neg ne10, if_neg nn0, if_neg nnT, if_pos (show ¬ (0 : Int32) = 1 by decide)]
    · exact t0
    · exact t0
    all_goals
      by_cases hl : nI F < nI L
      · simp only [if_pos hl]; exact t0
      · simp only [if_neg hl]
        by_cases hq : s' < r
        · simp only [if_pos hq, if_pos trivial]
          exact tail v true (fun _ => ⟨s', r, hq, hr, q1, q2⟩)
        · simp only [if_neg hq, if_neg ne10]
          exact pr_at (n := 3) (by decide) rfl rfl (rt_true h)
  · have n1 : ¬ nI n = (32 : Int32) := fun q => h32 (nI_inj (by omega) (by decide) q)
    simp only [if_neg h32, if_pos n1, shl_low hn1 (show n < 32 by omega)]
    have t0 := fun x => tail x false (fun q => Bool.noConfusion q)
    rcases c15 with z | z <;> rcases c13 with y | y <;> simp only [z, y, if_pos trivial, if_neg ne10, if_neg nn0, if_neg nnT, if_pos (show ¬ (0 : Int32) = 1 by decide)]
    · exact t0 _
    · exact t0 _
    all_goals
      by_cases hl : nI F < nI L
      · simp only [if_pos hl]; exact t0 _
      · simp only [if_neg hl]
        by_cases hq : s' < r
        · simp only [if_pos hq, if_pos trivial]
          exact tail _ true (fun _ => ⟨s', r, hq, hr, q1, q2⟩)
        · simp only [if_neg hq, if_neg ne10]
          exact pr_at (n := 3) (by decide) rfl rfl (rt_true h)
end
