section
variable {p i e cnt a : Nat} {nx : Int32} {μ0 ν0 μ ν : Mem} {w : Bool}
theorem pr_push (B : BS p i e cnt μ0 ν0) (h : RT i e cnt nx μ0 ν0 μ ν w) {x y : Nat} (hx : x ≤ 1) (hy : y ≤ 1) (i2 : μ0.2.1 9 (33 * p + a) 2 = (if x = 1 then 60 else 0)) (i4 : μ0.2.1 9 (33 * p + a) 4 = (if y = 1 then 62 else 0)) :
    PR i e cnt nx μ0 ν0 (fX9_push 0 (33 * p + a) (4 * i + e) (4 * p + e) μ) (fX13_push 0 (nI e) (nI x) (nI y) ν) := by
  have he : e < 4 := B.1.2.2.1
  obtain ⟨_, _, _, _, ⟨L, hL1, hL, l1, l2⟩, _⟩ := B.2.2.2.1.2.2.2.2.2.2.2.2.2
  have es15 : fX13_setting 0 (nI e) 15 ν = some (nI L, ν) := st_of h he (f := 15) (by decide) l1
  obtain ⟨s', r, hsr, hr, q1, q2, f1', f2'⟩ := pr_full h he
  unfold fX9_push fX13_push
  simp only [jn_eq, nm_eq]
  have go : PR i e cnt nx μ0 ν0 (bnd (fX7_isFull (2 * (4 * i + e) + 1) μ) fun x4 μ3 => if ¬ x4 = 0 then (ckB (μ3.2.1 9 (33 * p + a) 4) 74 <| if μ3.2.1 9 (33 * p + a) 4 = 62 then (bnd (fX1_setIsr (4 * i + e) (0 : Int32) (0 : Int32) μ3) fun _ μ9 => ckI (5 : Int32) (6) <| ckI (5 : Int32) (6) <| some ((0 : Int32), wI μ9 21 (4 * i + e) (5 : Int32).toNatClampNeg ((μ9.1 21 (4 * i + e) (5 : Int32).toNatClampNeg) + (1 : Int32)))) else some ((3 : Int32), μ3)) else bnd (fX1_pushIsr (4 * i + e) μ3) fun _ μ11 => some ((0 : Int32), μ11))
      (bnd (fX13_isFull 0 (nI e) (1 : Int32) ν) fun x3 μ2 => if ¬ x3 = 0 then (if ¬ nI y = 0 then (bnd (fX13_emptyShifted 0 (nI e) μ2) fun _ μ6 => bnd (fX13_note 0 (nI e) (5 : Int32) μ6) fun _ μ7 => some ((0 : Int32), μ7)) else some ((3 : Int32), μ2)) else bnd (fX13_appendShifted 0 (nI e) μ2) fun _ μ8 => some ((0 : Int32), μ8)) := by
    rw [f1', f2', bnd_some, bnd_some]
    by_cases hq : s' < r
    · obtain ⟨μ', ν', e1, e2, h2⟩ := pr_pushIsr h he q1 q2 hq hr
      rw [if_pos hq, if_neg nn0, if_neg nn0, e1, e2, bnd_some, bnd_some]
      exact pr_done rfl rfl (rt_true h2)
    · rw [if_neg hq, if_pos ne10, if_pos ne10, ins_r h i4, ckB_ok (by split <;> omega)]
      have : y = 0 ∨ y = 1 := by omega
      rcases this with rfl | rfl
      · rw [if_neg (by decide), if_neg (by decide)]
        exact pr_at (n := 3) (by decide) rfl rfl (rt_true h)
      · have h1 := rt_isr (v := 0) (f := 0) h ⟨0, by decide, rfl⟩
        obtain ⟨n1, h2⟩ := pr_note h1 he (k := 5) (by decide)
        have n1' : fX13_note 0 (nI e) 5 _ = _ := n1
        rw [if_pos (by decide), if_pos (by decide), c_isr, bnd_some, ckI_at (i := 5) (by decide), ckI_at (i := 5) (by decide), m_empty he, bnd_some, n1', bnd_some]
        exact pr_done rfl rfl (rt_true h2)
  have : x = 0 ∨ x = 1 := by omega
  rcases this with rfl | rfl
  · rw [ins_r h i2, if_neg (by decide), ckB_ok (by decide), if_pos (by decide), if_pos (show nI 0 = 0 from rfl)]
    exact go
  · rw [ins_r h i2, if_pos (by decide), ckB_ok (by decide), if_neg (by decide), if_neg (show ¬ nI 1 = 0 by decide), rt_8 h, l2, of6 h he, bnd_some, es15, bnd_some]
    by_cases hl : nI L ≤ μ.1 18 (4 * i + e) 5
    · rw [if_pos hl, if_pos hl]; exact go
    · rw [if_neg hl, if_neg hl]
      exact pr_done rfl rfl (rt_true h)
theorem pr_pull (B : BS p i e cnt μ0 ν0) (h : RT i e cnt nx μ0 ν0 μ ν w) {x y : Nat} (hx : x ≤ 1) (hy : y ≤ 1) (i2 : μ0.2.1 9 (33 * p + a) 2 = (if x = 1 then 61 else 0)) (i4 : μ0.2.1 9 (33 * p + a) 4 = (if y = 1 then 62 else 0)) (fu : Nat) :
    PR i e cnt nx μ0 ν0 (fX9_pull 0 (33 * p + a) (4 * i + e) (4 * p + e) μ) (fX13_pull (fu + 8) 0 (nI e) (nI x) (nI y) ν) := by
  have he : e < 4 := B.1.2.2.1
  obtain ⟨_, _, _, _, _, ⟨L, hL1, hL, l1, l2⟩, _⟩ := B.2.2.2.1.2.2.2.2.2.2.2.2.2
  have es17 : fX13_setting 0 (nI e) 17 ν = some (nI L, ν) := st_of h he (f := 17) (by decide) l1
  unfold fX9_pull fX13_pull
  simp only [jn_eq, nm_eq]
  have go : PR i e cnt nx μ0 ν0 (if (μ.1 19 (2 * (4 * i + e)) 0) ≤ 0 then (ckB (μ.2.1 9 (33 * p + a) 4) 74 <| if μ.2.1 9 (33 * p + a) 4 = 62 then (bnd (fX1_setOsr (4 * i + e) (μ.1 18 (4 * i + e) 1) μ) fun _ μ7 => some ((0 : Int32), μ7)) else some ((2 : Int32), μ)) else bnd (fX1_pullOsr (4 * i + e) μ) fun _ μ8 => some ((0 : Int32), μ8))
      (bnd (fX13_of 0 (nI e) (11 : Int32) ν) fun x3 μ2 => if x3 ≤ 0 then (if ¬ nI y = 0 then (bnd (fX13_of 0 (nI e) (2 : Int32) μ2) fun x7 μ6 => bnd (fX13_set 0 (nI e) (5 : Int32) x7 μ6) fun _ μ8 => bnd (fX13_set 0 (nI e) (7 : Int32) (0 : Int32) μ8) fun _ μ9 => some ((0 : Int32), μ9)) else some ((2 : Int32), μ2)) else bnd (fX13_refill (fu + 8) 0 (nI e) μ2) fun _ μ10 => some ((0 : Int32), μ10)) := by
    obtain ⟨s, hh, r, b1, b2, b3, b4, b5, b6, b7, b8, b9⟩ := rt_inq h
    rw [of11 h he, bnd_some]
    by_cases h0 : s = 0
    · have h0' : μ.1 19 (2 * (4 * i + e)) 0 ≤ 0 := by rw [b4, h0]; decide
      rw [if_pos h0', if_pos h0', ins_r h i4, ckB_ok (by split <;> omega)]
      have : y = 0 ∨ y = 1 := by omega
      rcases this with rfl | rfl
      · rw [if_neg (by decide), if_neg (by decide)]
        exact pr_at (n := 2) (by decide) rfl rfl (rt_true h)
      · rw [if_pos (by decide), if_pos (by decide), c_osr, bnd_some, of2 h he, bnd_some, m_osr he]
        exact pr_done rfl rfl (rt_true (rt_osr h))
    · have h0' : ¬ μ.1 19 (2 * (4 * i + e)) 0 ≤ 0 := by rw [b4]; exact nI_nle (by omega) (by omega)
      have h0'' : ¬ μ.1 19 (2 * (4 * i + e)) 0 = 0 := by rw [b4]; exact nI_ne0 (by omega) (by omega)
      obtain ⟨μ', ν', e1, e2, h3⟩ := pr_pullOsr h he h0'' fu
      rw [if_neg h0', if_neg h0', e1, e2, bnd_some, bnd_some]
      exact pr_done rfl rfl (rt_true h3)
  have : x = 0 ∨ x = 1 := by omega
  rcases this with rfl | rfl
  · rw [ins_r h i2, if_neg (by decide), ckB_ok (by decide), if_pos (by decide), if_pos (show nI 0 = 0 from rfl)]
    exact go
  · rw [ins_r h i2, if_pos (by decide), ckB_ok (by decide), if_neg (by decide), if_neg (show ¬ nI 1 = 0 by decide), rt_8 h, l2, of7 h he, bnd_some, es17, bnd_some]
    by_cases hl : nI L ≤ μ.1 18 (4 * i + e) 6
    · rw [if_pos hl, if_pos hl]; exact go
    · rw [if_neg hl, if_neg hl]
      exact pr_done rfl rfl (rt_true h)
theorem pl_lt {c s : Nat} (hp : isPl c s) : s < 74 := by rcases plS_at hp with ⟨rfl, rfl⟩ | ⟨rfl, rfl⟩ | ⟨rfl, rfl⟩ | ⟨rfl, rfl⟩ | ⟨rfl, rfl⟩ | ⟨rfl, rfl⟩ | ⟨rfl, rfl⟩ | ⟨rfl, rfl⟩ | ⟨rfl, rfl⟩ <;> decide
theorem pr_move (B : BS p i e cnt μ0 ν0) (h : RT i e cnt nx μ0 ν0 μ ν false) {c s d c2 s2 : Nat} {v : Int32} (hp : isPl c s) (h6 : c ≠ 6) (hd : d ≤ 2) (hs2 : s2 < 74) (i2 : μ0.2.1 9 (33 * p + a) 2 = s) (i3 : μ0.2.1 9 (33 * p + a) 3 = (if d = 0 then 0 else 62 + d)) (i4 : μ0.2.1 9 (33 * p + a) 4 = s2)
    (hv : fX9_sourceWord 0 s2 (4 * i + e) (4 * p + e) μ = some (v, μ)) (fu : Nat) :
    PR i e cnt nx μ0 ν0 (nm (μ.2.1 9 (33 * p + a) 2) fun a28 => ckB a28 74 <| bnd (fX9_moved 0 (33 * p + a) (4 * i + e) (4 * p + e) μ) fun x31 μ30 => bnd (fX9_deliver 0 a28 x31 (4 * i + e) (4 * p + e) μ30) fun _ μ32 => some ((0 : Int32), μ32)) (fX13_move (fu + 33) 0 (nI e) (nI c) (nI d) v ν) := by
  have he : e < 4 := B.1.2.2.1
  have go : ∀ v, PR i e cnt nx μ0 ν0 (bnd (fX9_deliver 0 s v (4 * i + e) (4 * p + e) μ) fun _ μ32 => some ((0 : Int32), μ32)) (if ¬ nI c = (4 : Int32) then (if ¬ nI c = (5 : Int32) then (bnd (fX13_write 0 (nI e) (nI c) v (5 : Int32) ν) fun x6 μ5 => some (x6, μ5)) else (bnd (fX13_set 0 (nI e) (5 : Int32) v ν) fun _ μ7 => bnd (fX13_set 0 (nI e) (7 : Int32) (0 : Int32) μ7) fun _ μ8 => some ((0 : Int32), μ8))) else (bnd (fX13_set 0 (nI e) (4 : Int32) v ν) fun _ μ9 => bnd (fX13_set 0 (nI e) (6 : Int32) (0 : Int32) μ9) fun _ μ10 => some ((0 : Int32), μ10))) := by
    intro v
    by_cases h4 : c = 4
    · subst h4
      have : s = 55 := hp.2.symm
      subst this
      have ed : fX9_deliver 0 55 v (4 * i + e) (4 * p + e) μ = some ((), wI (wI μ 18 (4 * i + e) 3 v) 18 (4 * i + e) 5 0) := by
        unfold fX9_deliver
        simp only [jn_eq]
        exact (sw_at (v := 22) (by decide)).trans rfl
      rw [ed, bnd_some, if_neg (fun q => q rfl), m_isr he]
      exact pr_done rfl rfl (rt_true (rt_isr h ⟨0, by decide, rfl⟩))
    · by_cases h5 : c = 5
      · subst h5
        have : s = 56 := hp.2.symm
        subst this
        have ed : fX9_deliver 0 56 v (4 * i + e) (4 * p + e) μ = some ((), wI (wI μ 18 (4 * i + e) 4 v) 18 (4 * i + e) 6 0) := by
          unfold fX9_deliver
          simp only [jn_eq]
          exact (sw_at (v := 23) (by decide)).trans rfl
        rw [ed, bnd_some, if_pos (by decide), if_neg (fun q => q rfl), m_osr he]
        exact pr_done rfl rfl (rt_true (rt_osr h))
      · obtain ⟨μ', ν', e1, e2, h3⟩ := pr_write B h hp h4 h5 h6 v
        have hc9 := hp.1
        have n4 : ¬ nI c = (4 : Int32) := fun q => h4 (nI_inj (by omega) (by decide) q)
        have n5 : ¬ nI c = (5 : Int32) := fun q => h5 (nI_inj (by omega) (by decide) q)
        rw [e1, bnd_some, if_pos n4, if_pos n5, e2, bnd_some]
        exact pr_done rfl rfl h3
  unfold fX9_moved fX13_move
  simp only [jn_eq, nm_eq]
  rw [ins_r h i2, ckB_ok (pl_lt hp), ins_r h i4, ckB_ok hs2, hv, bnd_some, ins_r h i3]
  have : d = 0 ∨ d = 1 ∨ d = 2 := by omega
  rcases this with rfl | rfl | rfl
  · rw [if_pos (by decide), ckB_ok (by decide), if_pos (by decide), ckB_ok (by decide), if_pos (by decide), bnd_some, if_pos (by decide), if_pos (by decide)]
    exact go v
  · rw [if_neg (by decide), ckB_ok (by decide), if_neg (by decide), bnd_some, if_neg (by decide)]
    exact go _
  · obtain ⟨y, e1, e2⟩ := both_reverse (x := v) (μ := μ) (ν := ν) fu
    rw [if_neg (by decide), ckB_ok (by decide), if_pos (by decide), ckB_ok (by decide), if_neg (by decide), e1, bnd_some, bnd_some, if_pos (by decide), if_neg (by decide), e2, bnd_some]
    exact go y
theorem pr_set (B : BS p i e cnt μ0 ν0) (h : RT i e cnt nx μ0 ν0 μ ν false) {c s n : Nat} (hp : isPl c s) (hc : c = 0 ∨ c = 1 ∨ c = 2 ∨ c = 7) (i2 : μ0.2.1 9 (33 * p + a) 2 = s) (i5 : μ0.1 9 (33 * p + a) 5 = nI n) :
    PR i e cnt nx μ0 ν0 (bnd (fX9_set 0 (33 * p + a) (4 * i + e) (4 * p + e) μ) fun _ μ41 => some ((0 : Int32), μ41)) (fX13_assign 0 (nI e) (nI c) (nI n) ν) := by
  obtain ⟨b, s', hb, hs, g1, g2, g3, g4⟩ := bs_grp B (g := 1) (by decide)
  obtain ⟨⟨hp2, hi, he, r0, r1⟩, _⟩ := id B
  have q1 : μ.2.1 22 0 1 = i := (rt_r h).trans r1
  have e7 : μ.1 8 (4 * p + e) 7 = nI b := (rt_8 h).trans g3
  have e8 : μ.1 8 (4 * p + e) 8 = μ0.1 8 (4 * p + e) 8 := rt_8 h
  unfold fX9_set fX13_assign
  simp only [jn_eq, nm_eq]
  rw [c_rot, bnd_some, ins_r h i2, ckB_ok (pl_lt hp), ins_n h i5, e7, e8]
  have other : ∀ c s : Nat, isPl c s → (c = 1 ∨ c = 2) → PR i e cnt nx μ0 ν0 (bnd (fX9_deliver 0 s (nI n) (4 * i + e) (4 * p + e) μ) fun _ μ41 => some ((0 : Int32), μ41)) (bnd (fX13_write 0 (nI e) (nI c) (nI n) (7 : Int32) ν) fun x2 μ1 => some (x2, μ1)) := by
    intro c s hp hc
    obtain ⟨μ', ν', e1, e2, h3⟩ := pr_write B h hp (by omega) (by omega) (by omega) (nI n)
    have ew : fX13_write 0 (nI e) (nI c) (nI n) (7 : Int32) ν = fX13_write 0 (nI e) (nI c) (nI n) (5 : Int32) ν := by
      unfold fX13_write
      simp only [jn_eq]
      rcases hc with rfl | rfl
      · rw [if_neg (by decide), if_pos (by decide), if_neg (by decide), if_pos (by decide)]
      · rw [if_neg (by decide), if_neg (by decide), if_pos (by decide), if_neg (by decide), if_neg (by decide), if_pos (by decide)]
    rw [e1, ew, e2, bnd_some, bnd_some]
    exact pr_done rfl rfl h3
  rcases hc with rfl | rfl | rfl | rfl
  · have : s = 51 := hp.2.symm
    subst this
    have ew : fX13_write 0 (nI e) (nI 0) (nI n) 7 ν = _ := m_wpins h he (t := 0) (g := 1) (Or.inl rfl) (by decide) g1 g2
    rw [if_neg (fun q => q rfl), q1, ckB_ok hi, ew, bnd_some]
    exact pr_done rfl rfl (rt_wr hb hs (Or.inl rfl) g4 h)
  · have : s = 52 := hp.2.symm
    subst this
    rw [if_pos (by decide), if_pos (by decide), ckB_ok (by decide)]
    have := other 1 52 hp (Or.inl rfl)
    obtain ⟨μ', ν', e1, e2, h3⟩ := pr_write B h hp (by omega) (by omega) (by omega) (nI n)
    rw [e1, bnd_some] at this ⊢
    exact this
  · have : s = 53 := hp.2.symm
    subst this
    rw [if_pos (by decide), if_pos (by decide), ckB_ok (by decide)]
    have := other 2 53 hp (Or.inr rfl)
    obtain ⟨μ', ν', e1, e2, h3⟩ := pr_write B h hp (by omega) (by omega) (by omega) (nI n)
    rw [e1, bnd_some] at this ⊢
    exact this
  · have : s = 57 := hp.2.symm
    subst this
    have ew : fX13_write 0 (nI e) (nI 7) (nI n) 7 ν = _ := m_wpins h he (t := 7) (g := 1) (Or.inr rfl) (by decide) g1 g2
    rw [if_pos (by decide), ckB_ok (by decide), if_neg (fun q => q rfl), q1, ckB_ok hi, ew, bnd_some]
    exact pr_done rfl rfl (rt_wr hb hs (Or.inr rfl) g4 h)
/-- the place of a load or store, both -/
theorem pr_place (h : RT i e cnt nx μ0 ν0 μ ν w) {b : Nat} (hb : b < 18) (i4 : μ0.2.1 9 (33 * p + a) 4 = (if b < 16 then 0 else 36 + b)) (i5 : μ0.1 9 (33 * p + a) 5 = (if b < 16 then nI b else -1)) :
    ∃ q : Nat, q < 16 ∧ fX9_placeOf (33 * p + a) (4 * i + e) μ = some (nI q, μ) ∧ (b < 16 → q = b) ∧ (16 ≤ b → nI q = μ.1 18 (4 * i + e) (if b = 16 then 1 else 2) &&& 15) := by
  unfold fX9_placeOf
  simp only [nm_eq]
  rw [ins_r h i4, ins_n h i5]
  by_cases hb16 : b < 16
  · refine ⟨b, hb16, ?_, fun _ => rfl, fun q => by omega⟩
    rw [if_pos hb16, if_pos hb16, ckB_ok (by decide), if_pos (by decide), ckB_ok (by decide), if_pos (by decide), pk_andN (by omega) 4 (by decide), Nat.mod_eq_of_lt (by omega)]
  · obtain ⟨x1, h1, e1⟩ := pk_andE (μ.1 18 (4 * i + e) 1) (m := 15) 4 (by decide)
    obtain ⟨x2, h2, e2⟩ := pk_andE (μ.1 18 (4 * i + e) 2) (m := 15) 4 (by decide)
    rw [if_neg hb16]
    have : b = 16 ∨ b = 17 := by omega
    rcases this with rfl | rfl
    · refine ⟨x1, h1, ?_, fun q => by omega, fun _ => e1.symm⟩
      rw [ckB_ok (by decide), if_neg (by decide), e1]
    · refine ⟨x2, h2, ?_, fun q => by omega, fun _ => e2.symm⟩
      rw [ckB_ok (by decide), if_pos (by decide), ckB_ok (by decide), if_neg (by decide), e2]
theorem pr_access (B : BS p i e cnt μ0 ν0) (h : RT i e cnt nx μ0 ν0 μ ν w) (ha : a < cnt) (hpc : μ.1 18 (4 * i + e) 0 = nI a) {o c s b : Nat} (ho : (o = 11 ∧ (c = 1 ∨ c = 2 ∨ c = 5)) ∨ (o = 12 ∧ (c = 1 ∨ c = 2 ∨ c = 4))) (hp : isPl c s) (hb : b < 18) (p0 : tN ν0 (284 + 6 * a + 0) = nI o) (p2 : tN ν0 (284 + 6 * a + 2) = nI b)
    (i0 : μ0.2.1 9 (33 * p + a) 0 = 30 + o) (i2 : μ0.2.1 9 (33 * p + a) 2 = s) (i4 : μ0.2.1 9 (33 * p + a) 4 = (if b < 16 then 0 else 36 + b)) (i5 : μ0.1 9 (33 * p + a) 5 = (if b < 16 then nI b else -1)) (fu : Nat) :
    PR i e cnt nx μ0 ν0 (fX9_access 0 (33 * p + a) (4 * i + e) 1 μ) (fX13_access (fu + 17) 0 (nI e) (nI c) ν) := by
  obtain ⟨⟨hp2, hi, he, r0, r1⟩, _⟩ := id B
  have hcn : cnt ≤ 32 := B.2.1.2.1
  have q1 : μ.2.1 22 0 1 = i := (rt_r h).trans r1
  obtain ⟨q, hq, e1, e2, e3⟩ := pr_place h hb i4 i5
  have c2 : fX13_codeOf 0 (nI e) 2 ν = some (nI b, ν) := cd_of h he (a := a) (f := 2) (by omega) (by decide) hpc p2
  have c0 : fX13_codeOf 0 (nI e) 0 ν = some (nI o, ν) := cd_of h he (a := a) (f := 0) (by omega) (by decide) hpc p0
  have hm : tN ν (108 + q) = μ.1 13 i q := h.2.2.2.2.1 q hq
  have st : ∀ (f : Nat) (v : Int32) (ν : Mem), f < 34 → fX13_set 0 (nI e) (nI (f + 1)) v ν = _ := fun f v ν hf => m_setE (k := f) he hf
  -- the place, then all else
  have go : PR i e cnt nx μ0 ν0 (nm (μ.2.1 9 (33 * p + a) 0) fun a5 => ckB a5 74 <| if ¬ a5 = 42 then (nm (μ.2.1 9 (33 * p + a) 2) fun a8 => ckB a8 74 <| if ¬ a8 = 52 then (nm (μ.2.1 9 (33 * p + a) 2) fun a11 => ckB a11 74 <| if ¬ a11 = 53 then (nm (μ.2.1 22 0 1) fun a14 => ckB a14 13 <| ckI (nI q) (16) <| bnd (fX1_setOsr (4 * i + e) (μ.1 13 a14 (nI q).toNatClampNeg) μ) fun _ μ16 => some ((0 : Int32), μ16))
        else (nm (μ.2.1 22 0 1) fun a17 => ckB a17 13 <| ckI (nI q) (16) <| nm (wI μ 18 (4 * i + e) 2 (μ.1 13 a17 (nI q).toNatClampNeg)) fun μ19 => some ((0 : Int32), μ19))) else (nm (μ.2.1 22 0 1) fun a20 => ckB a20 13 <| ckI (nI q) (16) <| nm (wI μ 18 (4 * i + e) 1 (μ.1 13 a20 (nI q).toNatClampNeg)) fun μ22 => some ((0 : Int32), μ22)))
      else (nm (μ.2.1 22 0 1) fun a23 => ckB a23 13 <| nm (μ.2.1 9 (33 * p + a) 2) fun a25 => ckB a25 74 <| bnd (fX9_storedWord a25 (4 * i + e) μ) fun x28 μ27 => ckI (nI q) (16) <| nm (wI μ27 13 a23 (nI q).toNatClampNeg x28) fun μ29 => some ((0 : Int32), μ29)))
      (nm (nI (108 + q)) fun x5 => bnd (fX13_codeOf 0 (nI e) (0 : Int32) ν) fun x7 μ6 => if ¬ x7 = (12 : Int32) then (if ¬ nI c = (5 : Int32) then (if ¬ nI c = (1 : Int32) then (ckI x5 (if 0 = 4 then 7000 else 700) <| bnd (fX13_set 0 (nI e) 3 (μ6.1 27 0 x5.toNatClampNeg) μ6) fun _ μ15 => some ((0 : Int32), μ15)) else (ckI x5 (if 0 = 4 then 7000 else 700) <| bnd (fX13_set 0 (nI e) 2 (μ6.1 27 0 x5.toNatClampNeg) μ6) fun _ μ15 => some ((0 : Int32), μ15)))
        else (ckI x5 (if 0 = 4 then 7000 else 700) <| bnd (fX13_set 0 (nI e) (5 : Int32) (μ6.1 27 0 x5.toNatClampNeg) μ6) fun _ μ17 => bnd (fX13_set 0 (nI e) (7 : Int32) (0 : Int32) μ17) fun _ μ18 => some ((0 : Int32), μ18)))
      else (bnd (fX13_source (fu + 17) 0 (nI e) (nI c) μ6) fun x20 μ19 => ckI x5 (if 0 = 4 then 7000 else 700) <| nm (wI μ19 27 0 x5.toNatClampNeg x20) fun μ21 => some ((0 : Int32), μ21))) := by
    simp only [nm_eq]
    rw [ins_r h i0, ins_r h i2, q1, ckB_ok (show 30 + o < 74 by omega), ckB_ok (pl_lt hp), ckB_ok (pl_lt hp), ckB_ok (pl_lt hp), ckB_ok hi, ckB_ok hi, ckB_ok hi, ckB_ok hi, c0, bnd_some, ckI_nI hq (by decide), ckI_nI hq (by decide), ckI_nI hq (by decide), ckI_nI (show 108 + q < (if 0 = 4 then 7000 else 700) by simp; omega) (by decide), ckI_nI (show 108 + q < (if 0 = 4 then 7000 else 700) by simp; omega) (by decide), ckI_nI (show 108 + q < (if 0 = 4 then 7000 else 700) by simp; omega) (by decide), nI_clamp (by omega), nI_clamp (by omega), show ν.1 27 0 (108 + q) = _ from hm]
    rcases ho with ⟨rfl, hc⟩ | ⟨rfl, hc⟩
    · rw [if_pos (show ¬ 30 + 11 = 42 by decide), if_pos (show ¬ nI 11 = (12 : Int32) by decide)]
      rcases hc with rfl | rfl | rfl
      · have : s = 52 := hp.2.symm
        subst this
        have e2 : fX13_set 0 (nI e) 2 (μ.1 13 i q) ν = _ := st 1 _ _ (by decide)
        rw [if_neg (show ¬ ¬ 52 = 52 from fun q => q rfl), if_pos (show ¬ nI 1 = (5 : Int32) by decide), if_neg (show ¬ ¬ nI 1 = (1 : Int32) from fun q => q rfl), e2, bnd_some]
        exact pr_done rfl rfl (rt_true (rt_w (k := 1) (by decide) (fun q => by omega) (fun q => by omega) (fun q => by omega) h))
      · have : s = 53 := hp.2.symm
        subst this
        have e2 : fX13_set 0 (nI e) 3 (μ.1 13 i q) ν = _ := st 2 _ _ (by decide)
        rw [if_pos (show ¬ 53 = 52 by decide), if_neg (show ¬ ¬ 53 = 53 from fun q => q rfl), if_pos (show ¬ nI 2 = (5 : Int32) by decide), if_pos (show ¬ nI 2 = (1 : Int32) by decide), e2, bnd_some]
        exact pr_done rfl rfl (rt_true (rt_w (k := 2) (by decide) (fun q => by omega) (fun q => by omega) (fun q => by omega) h))
      · have : s = 56 := hp.2.symm
        subst this
        rw [if_pos (show ¬ 56 = 52 by decide), if_pos (show ¬ 56 = 53 by decide), if_neg (show ¬ ¬ nI 5 = (5 : Int32) from fun q => q rfl), c_osr, bnd_some, m_osr he]
        exact pr_done rfl rfl (rt_true (rt_osr h))
    · rw [if_neg (show ¬ ¬ 30 + 12 = 42 from fun q => q rfl), if_neg (show ¬ ¬ nI 12 = (12 : Int32) from fun q => q rfl)]
      have hsrc : ∃ v, fX9_storedWord s (4 * i + e) μ = some (v, μ) ∧ fX13_source (fu + 17) 0 (nI e) (nI c) ν = some (v, ν) := by
        unfold fX9_storedWord fX13_source
        simp only [jn_eq]
        rcases hc with rfl | rfl | rfl
        · have : s = 52 := hp.2.symm
          subst this
          exact ⟨_, if_neg (fun q => q rfl), by rw [if_neg (by decide), if_pos (by decide), of2 h he]; rfl⟩
        · have : s = 53 := hp.2.symm
          subst this
          exact ⟨_, (if_pos (by decide)).trans (if_neg (fun q => q rfl)), by rw [if_neg (by decide), if_neg (by decide), if_pos (by decide), of3 h he]; rfl⟩
        · have : s = 55 := hp.2.symm
          subst this
          exact ⟨_, (if_pos (by decide)).trans (if_pos (by decide)), by rw [if_neg (by decide), if_neg (by decide), if_neg (by decide), if_neg (by decide), if_pos (by decide), of4 h he]; rfl⟩
      obtain ⟨v, ev1, ev2⟩ := hsrc
      rw [ev1, ev2, bnd_some, bnd_some, ckI_nI hq (by decide), ckI_nI (show 108 + q < (if 0 = 4 then 7000 else 700) by simp; omega) (by decide)]
      exact pr_done rfl rfl (rt_true (rt_mem hq he h))
  unfold fX9_access fX13_access
  simp only [jn_eq]
  rw [if_pos ne10, e1, bnd_some, c2, bnd_some]
  by_cases hb16 : b < 16
  · have : q = b := e2 hb16
    subst this
    rw [if_neg (show ¬ (16 : Int32) ≤ nI q from nI_ge (b := 16) hb16 (by decide)), show (108 : Int32) + nI q = nI (108 + q) from nI_add 108 q]
    exact go
  · have e3' := e3 (by omega)
    rw [if_pos (show (16 : Int32) ≤ nI b from nI_le (a := 16) (by omega) (by omega))]
    have : b = 16 ∨ b = 17 := by omega
    rcases this with rfl | rfl
    · rw [if_neg (show ¬ ¬ nI 16 = (16 : Int32) from fun q => q rfl), of2 h he, bnd_some, show μ.1 18 (4 * i + e) 1 &&& 15 = nI q from e3'.symm, show (108 : Int32) + nI q = nI (108 + q) from nI_add 108 q]
      exact go
    · rw [if_pos (show ¬ nI 17 = (16 : Int32) by decide), of3 h he, bnd_some, show μ.1 18 (4 * i + e) 2 &&& 15 = nI q from e3'.symm, show (108 : Int32) + nI q = nI (108 + q) from nI_add 108 q]
      exact go
end
