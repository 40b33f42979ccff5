section
variable {p i e cnt a : Nat} {nx : Int32} {μ0 ν0 μ ν : Mem} {w : Bool}
theorem rt_false_w {k : Nat} {v : Int32} (h : RT i e cnt nx μ0 ν0 μ ν false) (hk : 0 < k ∧ k < 5) : RT i e cnt nx μ0 ν0 (wI μ 18 (4 * i + e) k v) (wI ν 27 0 (560 + 35 * e + (k + 1)) v) false := rt_w (by omega) (fun q => by omega) (fun q => by omega) (fun q => by omega) h
/-- the rest of an out: the spent count, the target -/
theorem pr_outTail (B : BS p i e cnt μ0 ν0) (h : RT i e cnt nx μ0 ν0 μ ν false) {n c s : Nat} {v o : Int32} (hn : n ≤ 32) (hp : isPl c s) (h5 : c ≠ 5) (h6 : c ≠ 6) (i2 : μ0.2.1 9 (33 * p + a) 2 = s) :
    PR i e cnt nx μ0 ν0 (nm (wI (wI μ 18 (4 * i + e) 4 o) 18 (4 * i + e) 6 (if (32 : Int32) < ((wI μ 18 (4 * i + e) 4 o).1 18 (4 * i + e) 6) + nI n then (32 : Int32) else ((wI μ 18 (4 * i + e) 4 o).1 18 (4 * i + e) 6) + nI n)) fun μ6 =>
        nm (μ6.2.1 9 (33 * p + a) 2) fun a7 => ckB a7 74 <| bnd (fX9_deliver 0 a7 v (4 * i + e) (4 * p + e) μ6) fun _ μ9 => nm (μ9.2.1 9 (33 * p + a) 2) fun a10 => ckB a10 74 <| if ¬ a10 = 55 then some ((0 : Int32), μ9) else nm (wI μ9 18 (4 * i + e) 5 (nI n)) fun μ13 => some ((0 : Int32), μ13))
      (bnd (fX13_set 0 (nI e) 5 o ν) fun _ μ15 => bnd (fX13_of 0 (nI e) 7 μ15) fun x17 μ16 => bnd (fX13_set 0 (nI e) 7 (if (x17 + nI n) < (32 : Int32) then (x17 + nI n) else (32 : Int32)) μ16) fun _ μ18 =>
        if ¬ nI c = (4 : Int32) then bnd (fX13_write 0 (nI e) (nI c) v 5 μ18) fun x21 μ20 => some (x21, μ20) else bnd (fX13_set 0 (nI e) 4 v μ18) fun _ μ22 => bnd (fX13_set 0 (nI e) 6 (nI n) μ22) fun _ μ23 => some ((0 : Int32), μ23)) := by
  have he : e < 4 := B.1.2.2.1
  obtain ⟨f, hf, f1⟩ := rt_spent h
  have h1 := rt_false_w (k := 4) (v := o) h (by decide)
  have e5 : fX13_set 0 (nI e) 5 o ν = _ := m_setE (k := 4) he (by decide)
  have r6 : (wI μ 18 (4 * i + e) 4 o).1 18 (4 * i + e) 6 = nI f := (wI_o (by omega)).trans f1
  rw [e5, bnd_some, of7 h1 he, bnd_some]
  simp only [r6, min_c hf hn, min_m hf hn, nm_eq]
  have h2 : RT i e cnt nx μ0 ν0 (wI (wI μ 18 (4 * i + e) 4 o) 18 (4 * i + e) 6 (nI (if 32 < f + n then 32 else f + n))) (wI (wI ν 27 0 (560 + 35 * e + (4 + 1)) o) 27 0 (560 + 35 * e + (6 + 1)) (nI (if 32 < f + n then 32 else f + n))) false := rt_w (k := 6) (by decide) (fun _ => ⟨_, by split <;> omega, rfl⟩) (fun q => by omega) (fun q => by omega) h1
  have e7 : ∀ x ν, fX13_set 0 (nI e) 7 x ν = _ := fun x ν => m_setE (k := 6) he (by decide)
  rw [e7, bnd_some]
  generalize wI (wI μ 18 (4 * i + e) 4 o) 18 (4 * i + e) 6 (nI (if 32 < f + n then 32 else f + n)) = μ6 at h2 ⊢
  generalize wI (wI ν 27 0 (560 + 35 * e + (4 + 1)) o) 27 0 (560 + 35 * e + (6 + 1)) (nI (if 32 < f + n then 32 else f + n)) = ν6 at h2 ⊢
  have hs : s < 74 := by rcases plS_at hp with ⟨rfl, rfl⟩ | ⟨rfl, rfl⟩ | ⟨rfl, rfl⟩ | ⟨rfl, rfl⟩ | ⟨rfl, rfl⟩ | ⟨rfl, rfl⟩ | ⟨rfl, rfl⟩ | ⟨rfl, rfl⟩ | ⟨rfl, rfl⟩ <;> decide
  rw [ins_r h2 i2, ckB_ok hs]
  by_cases h4 : c = 4
  · subst h4
    have hs55 : s = 55 := by have := hp.2; exact this.symm
    subst hs55
    have ed : fX9_deliver 0 55 v (4 * i + e) (4 * p + e) μ6 = some ((), wI (wI μ6 18 (4 * i + e) 3 v) 18 (4 * i + e) 5 0) := by
      unfold fX9_deliver
      simp only [jn_eq]
      exact (sw_at (v := 22) (by decide)).trans rfl
    have h3 := rt_isr (v := v) (f := nI n) h2 ⟨n, hn, rfl⟩
    have e55 : (wI (wI μ6 18 (4 * i + e) 3 v) 18 (4 * i + e) 5 0).2.1 9 (33 * p + a) 2 = 55 := ins_r h2 i2
    rw [ed, bnd_some, e55, ckB_ok (by decide), if_neg (show ¬ ¬ (55 : Nat) = 55 from fun q => q rfl), wI_wI, if_neg (show ¬ ¬ nI 4 = (4 : Int32) from fun q => q rfl), m_isr he]
    exact pr_done rfl rfl (rt_true h3)
  · obtain ⟨μ', ν', e1, e2, h3⟩ := pr_write B h2 hp h4 h5 h6 v
    have n4 : ¬ nI c = (4 : Int32) := fun q => h4 (nI_inj (by have := hp.1; omega) (by decide) q)
    have n55 : ¬ s = 55 := by
      rcases plS_at hp with ⟨rfl, rfl⟩ | ⟨rfl, rfl⟩ | ⟨rfl, rfl⟩ | ⟨rfl, rfl⟩ | ⟨rfl, rfl⟩ | ⟨rfl, rfl⟩ | ⟨rfl, rfl⟩ | ⟨rfl, rfl⟩ | ⟨rfl, rfl⟩ <;> first | decide | exact absurd rfl h4
    rw [e1, bnd_some, if_pos n4, e2, bnd_some, ins_r h3 i2, ckB_ok hs, if_pos n55]
    exact pr_done rfl rfl h3
theorem rt_c18 (B : BS p i e cnt μ0 ν0) {g : Nat} {G : Nat} (hg : (g = 13 ∧ G = 13) ∨ (g = 14 ∧ G = 14) ∨ (g = 15 ∧ G = 16) ∨ (g = 16 ∧ G = 18)) : tN ν0 (476 + 21 * e + G) = μ0.1 8 (4 * p + e) g ∧ (μ0.1 8 (4 * p + e) g = 0 ∨ μ0.1 8 (4 * p + e) g = 1) := by
  obtain ⟨s13, s14, s16, s18, _⟩ := B.2.2.2.1.2.2.2.2.2.2.2.2.2
  rcases hg with ⟨rfl, rfl⟩ | ⟨rfl, rfl⟩ | ⟨rfl, rfl⟩ | ⟨rfl, rfl⟩
  · exact ⟨s13.1, by have := s13.2; rw [s13.1] at this; exact this⟩
  · exact ⟨s14.1, by have := s14.2; rw [s14.1] at this; exact this⟩
  · exact ⟨s16.1, by have := s16.2; rw [s16.1] at this; exact this⟩
  · exact ⟨s18.1, by have := s18.2; rw [s18.1] at this; exact this⟩
/-- an out behind its refilling -/
theorem pr_outGo (B : BS p i e cnt μ0 ν0) (h : RT i e cnt nx μ0 ν0 μ ν false) {n c s : Nat} (hn1 : 1 ≤ n) (hn : n ≤ 32) (hp : isPl c s) (h5 : c ≠ 5) (h6 : c ≠ 6) (i2 : μ0.2.1 9 (33 * p + a) 2 = s) {fc : Int32 → Mem → Option (Int32 × Mem)}
    (hfc : fc = fun x4 μ3 => nm (wI μ3 18 (4 * i + e) 6 (if (32 : Int32) < (μ3.1 18 (4 * i + e) 6) + nI n then (32 : Int32) else (μ3.1 18 (4 * i + e) 6) + nI n)) fun μ6 =>
        nm (μ6.2.1 9 (33 * p + a) 2) fun a7 => ckB a7 74 <| bnd (fX9_deliver 0 a7 x4 (4 * i + e) (4 * p + e) μ6) fun _ μ9 => nm (μ9.2.1 9 (33 * p + a) 2) fun a10 => ckB a10 74 <| if ¬ a10 = 55 then some ((0 : Int32), μ9) else nm (wI μ9 18 (4 * i + e) 5 (nI n)) fun μ13 => some ((0 : Int32), μ13))
    {fm : Int32 → Int32 → Mem → Option (Int32 × Mem)} (hfm : fm = fun x9 x14 μ8 => bnd (fX13_set 0 (nI e) 5 x14 μ8) fun _ μ15 => bnd (fX13_of 0 (nI e) 7 μ15) fun x17 μ16 => bnd (fX13_set 0 (nI e) 7 (if (x17 + nI n) < (32 : Int32) then (x17 + nI n) else (32 : Int32)) μ16) fun _ μ18 =>
        if ¬ nI c = (4 : Int32) then bnd (fX13_write 0 (nI e) (nI c) x9 5 μ18) fun x21 μ20 => some (x21, μ20) else bnd (fX13_set 0 (nI e) 4 x9 μ18) fun _ μ22 => bnd (fX13_set 0 (nI e) 6 (nI n) μ22) fun _ μ23 => some ((0 : Int32), μ23)) :
    PR i e cnt nx μ0 ν0 (if ¬ nI n = (32 : Int32) then (if (μ.1 8 (4 * p + e) 14) = 0 then fc ((μ.1 18 (4 * i + e) 4) &&& (((1 : Int32) <<< (nI n &&& 31)) - (1 : Int32))) (wI μ 18 (4 * i + e) 4 (((μ.1 18 (4 * i + e) 4).toUInt32 >>> ((nI n).toUInt32 &&& Int32.toUInt32 31)).toInt32))
        else fc (((μ.1 18 (4 * i + e) 4).toUInt32 >>> (((32 : Int32) - nI n).toUInt32 &&& Int32.toUInt32 31)).toInt32) (wI μ 18 (4 * i + e) 4 ((μ.1 18 (4 * i + e) 4) <<< (nI n &&& 31)))) else fc (μ.1 18 (4 * i + e) 4) (wI μ 18 (4 * i + e) 4 (0 : Int32)))
      (bnd (fX13_of 0 (nI e) 5 ν) fun x30 μ29 => bnd (fX13_setting 0 (nI e) 14 μ29) fun x32 μ31 =>
        if ¬ x32 = (1 : Int32) then (bnd (fX13_lowest x30 (nI n) μ31) fun x28 μ27 => if ¬ nI n = (32 : Int32) then fm x28 ((x30.toUInt32 >>> ((nI n).toUInt32 &&& Int32.toUInt32 31)).toInt32) μ27 else fm x28 0 μ27)
        else (if ¬ nI n = (32 : Int32) then fm ((x30.toUInt32 >>> (((32 : Int32) - nI n).toUInt32 &&& Int32.toUInt32 31)).toInt32) (x30 <<< (nI n &&& 31)) μ31 else fm ((x30.toUInt32 >>> (((32 : Int32) - nI n).toUInt32 &&& Int32.toUInt32 31)).toInt32) 0 μ31)) := by
  have he : e < 4 := B.1.2.2.1
  obtain ⟨t1, t2⟩ := rt_c18 B (g := 14) (G := 14) (Or.inr (Or.inl ⟨rfl, rfl⟩))
  have es : fX13_setting 0 (nI e) 14 ν = some (μ0.1 8 (4 * p + e) 14, ν) := st_of h he (f := 14) (by decide) t1
  have tail := fun v o => pr_outTail (a := a) (v := v) (o := o) B h hn hp h5 h6 i2
  subst hfc hfm
  rw [of5 h he, bnd_some, es, bnd_some, m_lowest hn, bnd_some]
  simp only [rt_8 h]
  by_cases h32 : n = 32
  · subst h32
    have n1 : ¬ ¬ nI 32 = (32 : Int32) := fun q => q rfl
    have u0 : ((μ.1 18 (4 * i + e) 4).toUInt32 >>> (((32 : Int32) - nI 32).toUInt32 &&& Int32.toUInt32 31)).toInt32 = μ.1 18 (4 * i + e) 4 := ushr_0
    rcases t2 with z | z <;> simp only [z, u0, if_neg n1, if_pos trivial, if_neg ne10, if_neg nnT, if_pos (show ¬ (0 : Int32) = 1 by decide)] <;> exact tail _ _
  · have n1 : ¬ nI n = (32 : Int32) := fun q => h32 (nI_inj (by omega) (by decide) q)
    rcases t2 with z | z <;> simp only [z, if_pos n1, if_neg h32, if_pos trivial, if_neg ne10, if_neg nnT, if_pos (show ¬ (0 : Int32) = 1 by decide)] <;> exact tail _ _
theorem pr_shiftOut (B : BS p i e cnt μ0 ν0) (h : RT i e cnt nx μ0 ν0 μ ν false) {n c s : Nat} (hn1 : 1 ≤ n) (hn : n ≤ 32) (hp : isPl c s) (h5 : c ≠ 5) (h6 : c ≠ 6) (i2 : μ0.2.1 9 (33 * p + a) 2 = s) (i5 : μ0.1 9 (33 * p + a) 5 = nI n) (fu : Nat) :
    PR i e cnt nx μ0 ν0 (fX9_shiftOut 0 (33 * p + a) (4 * i + e) (4 * p + e) μ) (fX13_shiftOut (fu + 8) 0 (nI e) (nI c) (nI n) ν) := by
  have he : e < 4 := B.1.2.2.1
  obtain ⟨_, _, _, _, _, ⟨L, hL1, hL, l1, l2⟩, _⟩ := B.2.2.2.1.2.2.2.2.2.2.2.2.2
  obtain ⟨t1, t2⟩ := rt_c18 B (g := 16) (G := 18) (Or.inr (Or.inr (Or.inr ⟨rfl, rfl⟩)))
  have es18 : fX13_setting 0 (nI e) 18 ν = some (μ0.1 8 (4 * p + e) 16, ν) := st_of h he (f := 18) (by decide) t1
  have es17 : fX13_setting 0 (nI e) 17 ν = some (nI L, ν) := st_of h he (f := 17) (by decide) l1
  unfold fX9_shiftOut fX13_shiftOut
  simp only [jn_eq, nm_eq, if_pos trivial, if_neg ne10]
  simp only [ins_n h i5]
  rw [es18, bnd_some, show μ.1 8 (4 * p + e) 16 = μ0.1 8 (4 * p + e) 16 from rt_8 h, show μ.1 8 (4 * p + e) 18 = nI L from (rt_8 h).trans l2]
  have go := fun {μ ν : Mem} (h : RT i e cnt nx μ0 ν0 μ ν false) => pr_outGo (a := a) B h hn1 hn hp h5 h6 i2 rfl rfl
  rcases t2 with z | z
  · rw [z, if_pos (show (0 : Int32) = 0 from rfl), if_pos (show ¬ (0 : Int32) = 1 by decide)]
    exact go h
  · rw [z, if_neg ne10, if_neg (show ¬ ¬ (1 : Int32) = 1 from fun q => q rfl), of7 h he, bnd_some, es17, bnd_some]
    by_cases hl : μ.1 18 (4 * i + e) 6 < nI L
    · rw [if_pos hl, if_pos hl]; exact go h
    · rw [if_neg hl, if_neg hl, of11 h he, bnd_some]
      by_cases h0 : μ.1 19 (2 * (4 * i + e)) 0 = 0
      · rw [if_neg (fun q => q h0), if_neg (fun q => q h0)]
        exact pr_at (n := 2) (by decide) rfl rfl (rt_true h)
      · obtain ⟨μ', ν', e1, e2, h3⟩ := pr_pullOsr h he h0 fu
        rw [if_pos h0, if_pos h0, e1, e2, bnd_some, bnd_some]
        exact go h3
end
