/-! the texts of a tick, cut -/
def cE (j n : Nat) (μ9 : Mem) (x10 : Int32) : Option (Int32 × Mem) :=
  nm (wI μ9 18 j 8 x10) fun μ11 => if x10 = 0 then (nm (wI μ11 18 j 7 (μ11.1 9 n 7)) fun μ13 => nm (wI μ13 18 j 0 (μ13.1 22 0 6)) fun μ14 => ckI (0 : Int32) (6) <| ckI (0 : Int32) (6) <| nm (wI μ14 21 j (0 : Int32).toNatClampNeg ((μ14.1 21 j (0 : Int32).toNatClampNeg) + (1 : Int32))) fun μ15 => ckZ (1 : Int32) (some ((1 : Int32), μ15)))
    else (ckI (1 : Int32) (6) <| ckI (1 : Int32) (6) <| nm (wI μ11 21 j (1 : Int32).toNatClampNeg ((μ11.1 21 j (1 : Int32).toNatClampNeg) + (1 : Int32))) fun μ16 => ckZ (0 : Int32) (some ((0 : Int32), μ16)))
def cK (j l n : Nat) (x7 x8 : Int32) (μ6 : Mem) : Option (Int32 × Mem) :=
  if x7 = 0 then cE j n μ6 x8 else if (μ6.1 9 n 6) = (-1 : Int32) then cE j n μ6 x8 else nm (μ6.2.1 22 0 1) fun a19 => ckB a19 13 <| bnd (fX12_rotatedPins (μ6.1 9 n 6) (μ6.1 8 l 9) μ6) fun x22 μ21 => bnd (fX3_writeLatches a19 (μ6.1 8 l 10) x22 μ21) fun _ μ23 => cE j n μ23 x8
def cJ (j l : Nat) (g : Int32) (n : Nat) (x : Int32) (μ2 : Mem) : Option (Int32 × Mem) :=
  nm (μ2.2.1 22 0 0) fun a24 => ckB a24 2 <| bnd (fX4_addressAfter a24 (μ2.1 18 j 0) l μ2) fun x27 μ26 => nm (wI μ26 22 0 6 x27) fun μ28 => bnd (fX2_usesPort n μ28) fun x30 μ29 => if x30 = 0 then bnd (fX9_execute 0 n j l μ29) fun x33 μ32 => cK j l n x x33 μ32 else bnd (fX9_access 0 n j g μ29) fun x35 μ34 => cK j l n x x35 μ34
theorem doTick_eq {j l : Nat} {g : Int32} {μ : Mem} : fX9_doTick 0 j l g μ = if (μ.1 18 j 7) ≤ 0 then (nm (μ.2.1 22 0 0) fun a36 => ckB a36 2 <| bnd (fX4_instructionAt a36 (μ.1 18 j 0) μ) fun a39 μ38 => ckB a39 66 <| if ¬ (μ38.1 18 j 8) = 0 then cJ j l g a39 0 μ38 else cJ j l g a39 1 μ38)
    else (nm (wI μ 18 j 7 ((μ.1 18 j 7) - (1 : Int32))) fun μ42 => ckI (2 : Int32) (6) <| ckI (2 : Int32) (6) <| nm (wI μ42 21 j (2 : Int32).toNatClampNeg ((μ42.1 21 j (2 : Int32).toNatClampNeg) + (1 : Int32))) fun μ43 => ckZ (0 : Int32) (some ((0 : Int32), μ43))) := rfl
def mE (e : Nat) (d m : Int32) (ν : Mem) : Option (Unit × Mem) :=
  bnd (fX13_set 0 (nI e) (9 : Int32) m ν) fun _ μ31 => if ¬ m = 0 then (bnd (fX13_note 0 (nI e) 1 μ31) fun _ μ13 => if ¬ m = 0 then some ((), μ13) else (bnd (fX13_set 0 (nI e) (8 : Int32) d μ13) fun _ μ22 => if (μ22.1 26 0 19) = (-1 : Int32) then (bnd (fX13_nextAddress 0 (nI e) μ22) fun x25 μ24 => bnd (fX13_set 0 (nI e) 1 x25 μ24) fun _ μ21 => some ((), μ21)) else (bnd (fX13_set 0 (nI e) 1 (μ22.1 26 0 19) μ22) fun _ μ21 => some ((), μ21))))
        else (bnd (fX13_note 0 (nI e) 0 μ31) fun _ μ13 => if ¬ m = 0 then some ((), μ13) else (bnd (fX13_set 0 (nI e) (8 : Int32) d μ13) fun _ μ22 => if (μ22.1 26 0 19) = (-1 : Int32) then (bnd (fX13_nextAddress 0 (nI e) μ22) fun x25 μ24 => bnd (fX13_set 0 (nI e) 1 x25 μ24) fun _ μ21 => some ((), μ21)) else (bnd (fX13_set 0 (nI e) 1 (μ22.1 26 0 19) μ22) fun _ μ21 => some ((), μ21))))
def mJ (fu e : Nat) (μ4 : Mem) : Option (Unit × Mem) :=
  nm (wI μ4 26 0 19 (-1 : Int32)) fun μ26 => bnd (fX13_codeOf 0 (nI e) (5 : Int32) μ26) fun x28 μ27 => bnd (fX13_execute fu 0 (nI e) μ27) fun x30 μ29 => mE e x28 x30 μ29
theorem tick_eq {fu e : Nat} {ν : Mem} : fX13_tick fu 0 (nI e) ν = bnd (fX13_of 0 (nI e) (8 : Int32) ν) fun x2 μ1 => if x2 ≤ 0 then (bnd (fX13_of 0 (nI e) (9 : Int32) μ1) fun x34 μ33 => if ¬ x34 = 0 then mJ fu e μ33 else bnd (fX13_codeOf 0 (nI e) (4 : Int32) μ33) fun x37 μ36 => ckI (nI e) (mil.getD 6 0) <| nm (wI μ36 28 6 (nI e).toNatClampNeg x37) fun μ38 => mJ fu e μ38)
    else (bnd (fX13_add 0 (nI e) (8 : Int32) (-1 : Int32) μ1) fun _ μ39 => bnd (fX13_note 0 (nI e) (2 : Int32) μ39) fun _ μ40 => some ((), μ40)) := by
  unfold fX13_tick mJ mE
  simp only [jn_eq, nm_eq]
section
variable {p i e cnt a : Nat} {g : Int32} {μ ν : Mem}
theorem pr_go (B : BS p i e cnt μ ν) (hE : relE μ (4 * i + e) (tN ν (476 + 21 * e + 19)) (tN ν (476 + 21 * e + 20)) (fun k => tN ν (560 + 35 * e + k))) (ha : a < cnt) (hpc : μ.1 18 (4 * i + e) 0 = nI a) (hmem : ∀ a, a < 16 → tN ν (108 + a) = μ.1 13 i a) (hr1 : ν.1 26 0 16 = μ.1 22 0 4) (hr2 : ν.1 26 0 17 = μ.1 22 0 5) (hw : ν.1 28 2 e = -1)
    (hg : (g = 1 ∧ ν.1 26 0 18 = nI e) ∨ (g = 0 ∧ ¬ ν.1 26 0 18 = nI e)) {νs : Mem} {sv x : Int32} (h2 : νs.2 = ν.2) (h1 : ∀ κ n k, ¬ (κ = 28 ∧ n = 6 ∧ k = e) → νs.1 κ n k = ν.1 κ n k) (hsv : νs.1 28 6 e = sv) (hx : (x = 0 ∧ sv = -1) ∨ (x = 1 ∧ sv = tN ν (284 + 6 * a + 4))) (fu : Nat) :
    ∃ r μ' ν', cJ (4 * i + e) (4 * p + e) g (33 * p + a) x μ = some (r, μ') ∧ mJ (fu + 33) e νs = some ((), ν') ∧ TK i e cnt μ ν r μ' ν' := by
  obtain ⟨⟨hp2, hi, he, r0, r1⟩, ⟨c1, c2, c3, c4⟩, hI, _⟩ := id B
  obtain ⟨x1, hx1, n1, n2⟩ := pr_next B ha
  obtain ⟨o, ho, p0, i0, hside, ⟨d, hd, d1, d2⟩, _⟩ := hI a ha
  have hsd : tN ν (284 + 6 * a + 4) = μ.1 9 (33 * p + a) 6 := by
    rcases hside with ⟨a1, a2⟩ | ⟨n, _, a1, a2⟩
    · exact a1.trans a2.symm
    · exact a1.trans a2.symm
  have t1 : ∀ k, tN νs k = tN ν k := fun k => h1 27 0 k (by omega)
  have t0 : ∀ k, tN (wI νs 26 0 19 (-1)) k = tN ν k := fun k => (tN_o (Or.inl (by decide))).trans (t1 k)
  have B0 : BS p i e cnt (wI μ 22 0 6 (nI x1)) (wI νs 26 0 19 (-1)) := by
    refine bs_congr (μ := μ) (ν := ν) rfl (fun n k => ?_) (fun n k => ?_) (fun n k => ?_) (fun k hk => ?_) (fun k _ => t0 k) (fun n k hn => ?_) B
    · exact wI_o (by omega)
    · exact wI_o (by omega)
    · exact wI_o (by omega)
    · exact wI_o (by omega)
    · rw [wI_o (by omega)]; exact h1 28 n k (by omega)
  have hw0 : (wI νs 26 0 19 (-1)).1 28 2 e = -1 := (wI_o (by omega)).trans ((h1 _ _ _ (by omega)).trans hw)
  have R0 : RT i e cnt (nI x1) (wI μ 22 0 6 (nI x1)) (wI νs 26 0 19 (-1)) (wI μ 22 0 6 (nI x1)) (wI νs 26 0 19 (-1)) false := by
    refine ⟨⟨rfl, rfl⟩, fun _ _ _ _ => rfl, fun _ _ _ _ => rfl, ?_, fun a ha => ?_, ⟨?_, ?_⟩, Or.inl ⟨wI_same, wI_same⟩, fun _ => ⟨rfl, rfl, hw0⟩, Or.inl hw0, fun q hq => ?_⟩
    · exact relE_cg (fun c => wI_o (by omega)) (fun c => wI_o (by omega)) (fun t c _ => wI_o (by omega)) (fun t c _ => wI_o (by omega)) (relE_T (t0 _) (t0 _) (fun k _ => t0 _) hE)
    · rw [t0, wI_o (by omega)]; exact hmem a ha
    · rw [wI_o (by omega), wI_o (by omega), h1 _ _ _ (by omega)]; exact hr1
    · rw [wI_o (by omega), wI_o (by omega), h1 _ _ _ (by omega)]; exact hr2
    · unfold apW; rw [if_pos hw0]
  have hpc0 : (wI μ 22 0 6 (nI x1)).1 18 (4 * i + e) 0 = nI a := (wI_o (by omega)).trans hpc
  have hg0 : (g = 1 ∧ (wI νs 26 0 19 (-1)).1 26 0 18 = nI e) ∨ (g = 0 ∧ ¬ (wI νs 26 0 19 (-1)).1 26 0 18 = nI e) := by
    rw [wI_o (by omega), h1 _ _ _ (by omega)]; exact hg
  obtain ⟨m, μ', ν', hm, e1, e2, h'⟩ := pr_exec B0 R0 ha hpc0 wI_same hg0 fu
  have cu : fX2_usesPort (33 * p + a) (wI μ 22 0 6 (nI x1)) = some (if o < 11 then 0 else 1, wI μ 22 0 6 (nI x1)) := c_uses i0 ho
  have cd5 : fX13_codeOf 0 (nI e) 5 (wI νs 26 0 19 (-1)) = some (nI d, wI νs 26 0 19 (-1)) := cd_of R0 he (a := a) (f := 5) (by omega) (by decide) hpc0 ((t0 _).trans d1)
  rw [cu, bnd_some] at e1
  have f9 : μ'.1 9 (33 * p + a) 6 = μ.1 9 (33 * p + a) 6 := (rt_9 h').trans (wI_o (by omega))
  have f97 : μ'.1 9 (33 * p + a) 7 = nI d := (rt_9 h').trans ((wI_o (by omega)).trans d2)
  have q1 : μ'.2.1 22 0 1 = i := (rt_r h').trans r1
  have w89 : ∀ k, μ'.1 8 (4 * p + e) k = (wI μ 22 0 6 (nI x1)).1 8 (4 * p + e) k := fun k => rt_8 h'
  obtain ⟨r, μf, νf, k1, k2, k3⟩ := pr_end (a := a) (sv := sv) B0 h' ha hm (show d ≤ 31 by omega) hx1 hpc0 ((wI_o (by omega)).trans hsv)
    (fun ν' q1 q2 q3 => n2 ν' q1 (fun f hf => (q2 f hf).trans (t0 _)) (q3.trans (t0 _)))
    (μa := μ) (νa := ν) ⟨rfl, fun κ n k q => wI_o (fun z => q (by unfold WT; omega))⟩ ⟨h2, fun κ n k q => (wI_o (fun z => q (by unfold WV WM; omega))).trans (h1 κ n k (fun z => q (by unfold WV WM; omega)))⟩ (wI_o (by omega)) ⟨wI_o (by omega), wI_o (by omega)⟩ rfl
  have kE : ∀ μs : Mem, μs.1 9 (33 * p + a) 7 = nI d → cE (4 * i + e) (33 * p + a) μs (nI m) = (if nI m = 0 then ckI (0 : Int32) (6) (ckI (0 : Int32) (6) (ckZ (1 : Int32) (some ((1 : Int32), wI (wI (wI (wI μs 18 (4 * i + e) 8 (nI m)) 18 (4 * i + e) 7 (nI d)) 18 (4 * i + e) 0 ((wI (wI μs 18 (4 * i + e) 8 (nI m)) 18 (4 * i + e) 7 (nI d)).1 22 0 6)) 21 (4 * i + e) (0 : Int32).toNatClampNeg ((wI (wI (wI μs 18 (4 * i + e) 8 (nI m)) 18 (4 * i + e) 7 (nI d)) 18 (4 * i + e) 0 ((wI (wI μs 18 (4 * i + e) 8 (nI m)) 18 (4 * i + e) 7 (nI d)).1 22 0 6)).1 21 (4 * i + e) (0 : Int32).toNatClampNeg + (1 : Int32))))))
        else (ckI (1 : Int32) (6) (ckI (1 : Int32) (6) (ckZ (0 : Int32) (some ((0 : Int32), wI (wI μs 18 (4 * i + e) 8 (nI m)) 21 (4 * i + e) (1 : Int32).toNatClampNeg ((wI μs 18 (4 * i + e) 8 (nI m)).1 21 (4 * i + e) (1 : Int32).toNatClampNeg + (1 : Int32)))))))) := fun μs hs => by
    unfold cE
    simp only [nm_eq]
    rw [show (wI μs 18 (4 * i + e) 8 (nI m)).1 9 (33 * p + a) 7 = nI d from (wI_o (by omega)).trans hs]
  have kK : cK (4 * i + e) (4 * p + e) (33 * p + a) x (nI m) μ' = some (r, μf) := by
    rw [← k1]
    unfold cK
    rcases hx with ⟨rfl, rfl⟩ | ⟨rfl, rfl⟩
    · rw [if_pos rfl, kE _ f97, if_pos rfl]
    · rw [if_neg ne10, f9, ← hsd]
      by_cases hq : tN ν (284 + 6 * a + 4) = -1
      · rw [if_pos hq, if_pos hq, kE _ f97]
      · rw [if_neg hq, if_neg hq, nm_eq, q1, ckB_ok hi, c_rot, bnd_some]
        unfold fX3_writeLatches
        rw [nm_eq, bnd_some, w89, w89]
        exact kE _ ((wI_o (by omega)).trans f97)
  refine ⟨r, μf, νf, ?_, ?_, k3⟩
  · unfold cJ
    rw [nm_eq, r0, ckB_ok hp2, hpc, n1, bnd_some, nm_eq, cu, bnd_some]
    by_cases h11 : o < 11
    · rw [if_pos h11] at e1 ⊢
      rw [if_pos rfl] at e1 ⊢
      rw [e1, bnd_some]
      exact kK
    · rw [if_neg h11] at e1 ⊢
      rw [if_neg ne10] at e1 ⊢
      rw [e1, bnd_some]
      exact kK
  · unfold mJ
    rw [nm_eq, cd5, bnd_some, e2, bnd_some]
    exact k2
theorem pr_tick (B : BS p i e cnt μ ν) (hE : relE μ (4 * i + e) (tN ν (476 + 21 * e + 19)) (tN ν (476 + 21 * e + 20)) (fun k => tN ν (560 + 35 * e + k))) (ha : a < cnt) (hpc : μ.1 18 (4 * i + e) 0 = nI a) (hmem : ∀ a, a < 16 → tN ν (108 + a) = μ.1 13 i a) (hr1 : ν.1 26 0 16 = μ.1 22 0 4) (hr2 : ν.1 26 0 17 = μ.1 22 0 5) (hw : ν.1 28 2 e = -1) (hs : ν.1 28 6 e = -1)
    (hg : (g = 1 ∧ ν.1 26 0 18 = nI e) ∨ (g = 0 ∧ ¬ ν.1 26 0 18 = nI e)) (fu : Nat) : ∃ r μ' ν', fX9_doTick 0 (4 * i + e) (4 * p + e) g μ = some (r, μ') ∧ fX13_tick (fu + 33) 0 (nI e) ν = some ((), ν') ∧ TK i e cnt μ ν r μ' ν' := by
  obtain ⟨⟨hp2, hi, he, r0, r1⟩, ⟨c1, c2, c3, c4⟩, hI, _⟩ := id B
  obtain ⟨d0, hd0, hd⟩ := hE.2.2.2.2.2.2.1
  obtain ⟨st, hst, hstv⟩ := hE.2.2.2.2.2.2.2.1
  have hd : tN ν (560 + 35 * e + 8) = nI d0 := hd
  have hstv : tN ν (560 + 35 * e + 9) = nI st := hstv
  have g7 : μ.1 18 (4 * i + e) 7 = nI d0 := (hE.2.2.1 7 (by decide)).symm.trans hd
  have g8 : μ.1 18 (4 * i + e) 8 = nI st := (hE.2.2.1 8 (by decide)).symm.trans hstv
  have gp : tN ν (560 + 35 * e + 1) = nI a := (hE.2.2.1 0 (by decide)).trans hpc
  have o8 : fX13_of 0 (nI e) 8 ν = some (nI d0, ν) := by rw [← hd]; exact r_of (f := 8) (by omega)
  have o9 : fX13_of 0 (nI e) 9 ν = some (nI st, ν) := by rw [← hstv]; exact r_of (f := 9) (by omega)
  rw [doTick_eq, tick_eq, o8, bnd_some, g7]
  by_cases h0 : d0 = 0
  · subst h0
    rw [if_pos (by decide), if_pos (by decide), nm_eq, r0, ckB_ok hp2, hpc, c_insAt c4 c2 ha, bnd_some, ckB_ok (by omega), o9, bnd_some, g8]
    by_cases hs0 : nI st = 0
    · have cd4 : fX13_codeOf 0 (nI e) 4 ν = some (tN ν (284 + 6 * a + 4), ν) := by
        unfold fX13_codeOf
        have o1 : fX13_of 0 (nI e) 1 ν = some (nI a, ν) := by rw [← gp]; exact r_of (f := 1) (by omega)
        have o2 : fX13_code 0 (nI a) 4 ν = some (tN ν (284 + 6 * a + 4), ν) := r_code (f := 4) (by omega)
        rw [o1, bnd_some, o2, bnd_some]
      rw [if_neg (fun q => q hs0), if_neg (fun q => q hs0), cd4, bnd_some, ckI_nI (by exact he) (by decide), nI_clamp (by omega), nm_eq]
      exact pr_go (νs := wI ν 28 6 e (tN ν (284 + 6 * a + 4))) B hE ha hpc hmem hr1 hr2 hw hg rfl (fun κ n k q => wI_o (by omega)) wI_same (Or.inr ⟨rfl, rfl⟩) fu
    · rw [if_pos hs0, if_pos hs0]
      exact pr_go B hE ha hpc hmem hr1 hr2 hw hg rfl (fun κ n k q => rfl) hs (Or.inl ⟨rfl, rfl⟩) fu
  · have n0 : ¬ nI d0 ≤ 0 := nI_nle (by omega) (by omega)
    obtain ⟨d1, rfl⟩ : ∃ d1, d0 = d1 + 1 := ⟨d0 - 1, by omega⟩
    have ad : fX13_add 0 (nI e) 8 (-1) ν = some ((), wI ν 27 0 (560 + 35 * e + (7 + 1)) (nI d1)) := by
      have := r_add (μ := ν) (e := e) (f := 8) (v := -1) (by omega)
      rw [hd, pk_m1] at this
      exact this
    have nt : fX13_note 0 (nI e) 2 (wI ν 27 0 (560 + 35 * e + (7 + 1)) (nI d1)) = _ := m_note (k := 2) he (by decide)
    have cv : tN (wI ν 27 0 (560 + 35 * e + (7 + 1)) (nI d1)) (560 + 35 * e + (29 + 2)) = μ.1 21 (4 * i + e) 2 := by
      rw [tN_o (by omega)]; exact hE.2.2.2.1 2 (by decide)
    have E1 := relE_w (k := 7) (v := nI d1) (by decide) (fun q => by omega) (fun _ => ⟨d1, by omega, rfl⟩) (fun q => by omega) hE
    have E2 := relE_c (k := 2) (v := μ.1 21 (4 * i + e) 2 + 1) (by decide) E1
    rw [if_neg n0, if_neg n0, ad, bnd_some, nt, cv, bnd_some, nI_pred, nm_eq, ckI_at (i := 2) (by decide), ckI_at (i := 2) (by decide), nm_eq, ckZ_ok (Or.inl rfl), show (2 : Int32).toNatClampNeg = 2 from rfl, show (wI μ 18 (4 * i + e) 7 (nI d1)).1 21 (4 * i + e) 2 = μ.1 21 (4 * i + e) 2 from wI_o (by omega)]
    refine ⟨0, _, _, rfl, rfl, ⟨rfl, rfl⟩, ?_, ?_, E2, ⟨a, ha, ?_⟩, fun b hb => ?_, ⟨?_, ?_⟩, fun q hq => ?_, Or.inl ((wI_o (by omega)).trans ((wI_o (by omega)).trans hw)), Or.inl ⟨rfl, ?_⟩⟩
    · exact fr_t (fr_t (fun _ _ _ _ => rfl) (Or.inl ⟨rfl, rfl, by decide⟩)) (Or.inr (Or.inl ⟨rfl, rfl⟩))
    · have w9 : ∀ f, f < 35 → WV e 27 0 (560 + 35 * e + f) := fun f hf => Or.inl (Or.inl ⟨rfl, rfl, Or.inl ⟨by omega, by omega⟩⟩)
      exact fr_v (fr_v (fun _ _ _ _ => rfl) (w9 _ (by decide))) (w9 _ (by decide))
    · rw [tN_o (by omega), tN_o (by omega)]; exact gp
    · rw [tN_o (by omega), tN_o (by omega), wI_o (by omega), wI_o (by omega)]; exact hmem b hb
    · rw [wI_o (by omega), wI_o (by omega), wI_o (by omega), wI_o (by omega)]; exact hr1
    · rw [wI_o (by omega), wI_o (by omega), wI_o (by omega), wI_o (by omega)]; exact hr2
    · unfold apF apW
      rw [wI_o (by omega), wI_o (by omega), wI_o (by omega), wI_o (by omega)]
      have e6 : (wI (wI ν 27 0 (560 + 35 * e + (7 + 1)) (nI d1)) 27 0 (560 + 35 * e + (29 + 2)) (μ.1 21 (4 * i + e) 2 + 1)).1 28 6 e = -1 := (wI_o (by omega)).trans ((wI_o (by omega)).trans hs)
      have e2 : (wI (wI ν 27 0 (560 + 35 * e + (7 + 1)) (nI d1)) 27 0 (560 + 35 * e + (29 + 2)) (μ.1 21 (4 * i + e) 2 + 1)).1 28 2 e = -1 := (wI_o (by omega)).trans ((wI_o (by omega)).trans hw)
      rw [if_pos e6, if_pos e2]
    · rw [wI_o (by omega), wI_o (by omega)]
end
