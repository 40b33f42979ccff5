/-! the port -/
section
variable {p i e cnt : Nat} {μ ν : Mem}
/-- an engine that exists, and its row -/
def okE (p i e cnt : Nat) (μ ν : Mem) : Prop := relE μ (4 * i + e) (tN ν (476 + 21 * e + 19)) (tN ν (476 + 21 * e + 20)) (fun k => tN ν (560 + 35 * e + k)) ∧ ∃ a : Nat, a < cnt ∧ tN ν (560 + 35 * e + 1) = nI a
theorem pr_wants (he : e < 4) (hp : p < 2) (r0 : μ.2.1 22 0 0 = p) (h5 : μ.1 5 p 0 = nI cnt) (hc : cnt ≤ 32) (hI : ∀ a, a < cnt → relI μ (33 * p + a) cnt (fun k => tN ν (284 + 6 * a + k))) {b : Bool} (hb : ν.1 29 0 e = b2 b) (hE : b = true → okE p i e cnt μ ν) :
    ∃ w : Bool, (b = true → fX9_wantsPort 0 (4 * i + e) μ = some (b2 w, μ)) ∧ fX13_wantsPort 0 (nI e) ν = some (b2 (b && w), ν) := by
  unfold fX9_wantsPort fX13_wantsPort
  simp only [jn_eq, nm_eq]
  rw [ckI_nI he (by decide), nI_clamp (by omega), hb]
  cases b
  · refine ⟨false, fun q => Bool.noConfusion q, ?_⟩
    rw [if_pos (show b2 false = 0 from rfl), ckZ_ok (Or.inl rfl)]; rfl
  · obtain ⟨E, a, ha, hpc⟩ := hE rfl
    obtain ⟨o, ho, p0, i0, _⟩ := hI a ha
    obtain ⟨d0, hd0, hd⟩ := E.2.2.2.2.2.2.1
    have hd : tN ν (560 + 35 * e + 8) = nI d0 := hd
    have g7 : μ.1 18 (4 * i + e) 7 = nI d0 := (E.2.2.1 7 (by decide)).symm.trans hd
    have g0 : μ.1 18 (4 * i + e) 0 = nI a := (E.2.2.1 0 (by decide)).symm.trans hpc
    have o8 : fX13_of 0 (nI e) 8 ν = some (nI d0, ν) := by rw [← hd]; exact r_of (f := 8) (by omega)
    have cd : fX13_codeOf 0 (nI e) 0 ν = some (nI o, ν) := by
      unfold fX13_codeOf
      have o1 : fX13_of 0 (nI e) 1 ν = some (nI a, ν) := by rw [← hpc]; exact r_of (f := 1) (by omega)
      have o2 : fX13_code 0 (nI a) 0 ν = some (tN ν (284 + 6 * a + 0), ν) := r_code (f := 0) (by omega)
      rw [o1, bnd_some, o2, bnd_some, show tN ν (284 + 6 * a + 0) = nI o from p0]
    rw [if_neg (show ¬ b2 true = 0 by decide), o8, bnd_some, g7]
    by_cases h0 : d0 = 0
    · subst h0
      have cu : fX2_usesPort (33 * p + a) μ = some (if o < 11 then 0 else 1, μ) := c_uses i0 ho
      rw [if_neg (show ¬ ¬ nI 0 = 0 from nn0), if_neg (show ¬ ¬ nI 0 = 0 from nn0), r0, ckB_ok hp, g0, c_insAt h5 hc ha, bnd_some, ckB_ok (by omega), cu, bnd_some, cd, bnd_some]
      by_cases h11 : o < 11
      · rw [if_pos h11, if_pos (show nI o < (11 : Int32) from nI_lt (b := 11) h11 (by decide)), ckZ_ok (Or.inl rfl)]
        exact ⟨false, fun _ => by rw [if_pos rfl]; rfl, rfl⟩
      · rw [if_neg h11, if_neg (show ¬ nI o < (11 : Int32) from nI_nlt (b := 11) (by omega) (by omega)), ckZ_ok (Or.inr rfl)]
        exact ⟨true, fun _ => by rw [if_neg ne10]; rfl, rfl⟩
    · have n0 : ¬ nI d0 = 0 := nI_ne0 (by omega) (by omega)
      rw [if_pos n0, if_pos n0, ckZ_ok (Or.inl rfl), ckZ_ok (Or.inl rfl)]
      exact ⟨false, fun _ => rfl, rfl⟩
theorem own_add {v : Int32} (hv : v = -1 ∨ ∃ n : Nat, n < 4 ∧ v = nI n) : ∃ s : Nat, s ≤ 4 ∧ ∀ k : Nat, 1 ≤ k → v + nI k = nI (s + k - 1) := by
  rcases hv with rfl | ⟨n, hn, rfl⟩
  · refine ⟨0, by omega, fun k hk => ?_⟩
    obtain ⟨r, rfl⟩ : ∃ r, k = r + 1 := ⟨k - 1, by omega⟩
    rw [Int32.add_comm, pk_m1]
    congr 1; omega
  · refine ⟨n + 1, by omega, fun k hk => ?_⟩
    rw [nI_add]
    congr 1; omega
theorem pr_port (hp : p < 2) (hi : i < 13) (r0 : μ.2.1 22 0 0 = p) (r1 : μ.2.1 22 0 1 = i) (h5 : μ.1 5 p 0 = nI cnt) (hc : cnt ≤ 32) (hI : ∀ a, a < cnt → relI μ (33 * p + a) cnt (fun k => tN ν (284 + 6 * a + k))) {M : Int32} (hM : ∀ e, e < 4 → ν.1 29 0 e = b2 (bt M e) ∧ (bt M e = true → okE p i e cnt μ ν))
    (ho : tN ν 2 = μ.1 12 i 5) (ho2 : tN ν 2 = -1 ∨ ∃ n : Nat, n < 4 ∧ tN ν 2 = nI n) (fu gu : Nat) :
    ∃ v : Int32, (v = -1 ∨ ∃ n : Nat, n < 4 ∧ v = nI n) ∧ fX9_grantPort (fu + 5) 0 M μ = some (v, if v = -1 then μ else wI μ 12 i 5 v) ∧ fX13_givePort (gu + 5) 0 ν = some ((), if v = -1 then wI ν 26 0 18 (-1) else wI (wI ν 26 0 18 v) 27 0 2 v) := by
  obtain ⟨s, hs, hadd⟩ := own_add ho2
  unfold fX9_grantPort fX13_givePort
  simp only [jn_eq, nm_eq]
  have w18 : ∀ v, (wI ν 26 0 18 v).1 26 0 18 = v := fun v => wI_same
  have ck2 : ∀ o : Option (Unit × Mem), ckI (2 : Int32) (if 0 = 4 then 7000 else 700) o = o := fun o => ckI_at (by decide)
  have key := lp_ind2 (z := fun (_ : Mem) (_ : Int32) => (none : Option (Int32 × Mem))) (y := fun (_ : Mem) (_ : Int32) => (none : Option (Unit × Mem)))
    (b := fun (j2 : Mem → Int32 → Option (Int32 × Mem)) (μ1 : Mem) (x2 : Int32) => if (4 : Int32) < x2 then some ((-1 : Int32), μ1) else
      ckB (μ1.2.1 22 0 1) 13 <| ckD (4 : Int32) <|
      if ((μ1.1 12 (μ1.2.1 22 0 1) 5) + x2) - ((μ1.1 12 (μ1.2.1 22 0 1) 5) + x2) / (4 : Int32) * (4 : Int32) < 0 then j2 μ1 (x2 + 1)
      else if ¬ ((M >>> ((((μ1.1 12 (μ1.2.1 22 0 1) 5) + x2) - ((μ1.1 12 (μ1.2.1 22 0 1) 5) + x2) / (4 : Int32) * (4 : Int32)) &&& 31)) &&& (1 : Int32)) = (1 : Int32) then j2 μ1 (x2 + 1)
      else ckB (μ1.2.1 22 0 1) 13 <| ckI (((μ1.1 12 (μ1.2.1 22 0 1) 5) + x2) - ((μ1.1 12 (μ1.2.1 22 0 1) 5) + x2) / (4 : Int32) * (4 : Int32)) 4 <|
        bnd (fX9_wantsPort 0 (4 * μ1.2.1 22 0 1 + (((μ1.1 12 (μ1.2.1 22 0 1) 5) + x2) - ((μ1.1 12 (μ1.2.1 22 0 1) 5) + x2) / (4 : Int32) * (4 : Int32)).toNatClampNeg) μ1) fun x17 μ16 =>
        if x17 = 0 then j2 μ16 (x2 + 1) else ckB (μ16.2.1 22 0 1) 13 <| some (((μ1.1 12 (μ1.2.1 22 0 1) 5) + x2) - ((μ1.1 12 (μ1.2.1 22 0 1) 5) + x2) / (4 : Int32) * (4 : Int32), wI μ16 12 (μ16.2.1 22 0 1) 5 (((μ1.1 12 (μ1.2.1 22 0 1) 5) + x2) - ((μ1.1 12 (μ1.2.1 22 0 1) 5) + x2) / (4 : Int32) * (4 : Int32))))
    (c := fun (j7 : Mem → Int32 → Option (Unit × Mem)) (μ1 : Mem) (x2 : Int32) =>
      if (4 : Int32) < x2 then (if ¬ (μ1.1 26 0 18) = (-1 : Int32) then ckI (2 : Int32) (if 0 = 4 then 7000 else 700) (some ((), wI μ1 27 0 (2 : Int32).toNatClampNeg (μ1.1 26 0 18))) else ckI (2 : Int32) (if 0 = 4 then 7000 else 700) (ckI (2 : Int32) (if 0 = 4 then 7000 else 700) (some ((), wI μ1 27 0 (2 : Int32).toNatClampNeg (μ1.1 27 0 (2 : Int32).toNatClampNeg)))))
      else if ¬ (μ1.1 26 0 18) = (-1 : Int32) then (if ¬ (μ1.1 26 0 18) = (-1 : Int32) then ckI (2 : Int32) (if 0 = 4 then 7000 else 700) (some ((), wI μ1 27 0 (2 : Int32).toNatClampNeg (μ1.1 26 0 18))) else ckI (2 : Int32) (if 0 = 4 then 7000 else 700) (ckI (2 : Int32) (if 0 = 4 then 7000 else 700) (some ((), wI μ1 27 0 (2 : Int32).toNatClampNeg (μ1.1 27 0 (2 : Int32).toNatClampNeg)))))
      else ckI (2 : Int32) (if 0 = 4 then 7000 else 700) <| ckD (4 : Int32) <|
        bnd (fX13_wantsPort 0 (((μ1.1 27 0 (2 : Int32).toNatClampNeg) + x2) - ((μ1.1 27 0 (2 : Int32).toNatClampNeg) + x2) / (4 : Int32) * (4 : Int32)) μ1) fun x22 μ21 =>
        if x22 = 0 then j7 (wI μ21 26 0 18 (-1 : Int32)) (x2 + 1) else j7 (wI μ21 26 0 18 (((μ1.1 27 0 (2 : Int32).toNatClampNeg) + x2) - ((μ1.1 27 0 (2 : Int32).toNatClampNeg) + x2) / (4 : Int32) * (4 : Int32))) (x2 + 1))
    (P := fun r f g => (∀ k : Nat, 1 ≤ k → k + r = 5 → ∃ v : Int32, (v = -1 ∨ ∃ n : Nat, n < 4 ∧ v = nI n) ∧ f μ (nI k) = some (v, if v = -1 then μ else wI μ 12 i 5 v) ∧ g (wI ν 26 0 18 (-1)) (nI k) = some ((), if v = -1 then wI ν 26 0 18 (-1) else wI (wI ν 26 0 18 v) 27 0 2 v)) ∧
      (∀ (n : Nat) (k : Int32), n < 4 → g (wI ν 26 0 18 (nI n)) k = some ((), wI (wI ν 26 0 18 (nI n)) 27 0 2 (nI n))))
    (fun f g => ?_) (fun r f g ih => ?_) 4 fu gu
  · exact key.1 1 (by decide) rfl
  · refine ⟨fun k h1 hk => ⟨-1, Or.inl rfl, ?_, ?_⟩, fun n k hn => ?_⟩
    · have : k = 5 := by omega
      subst this
      rw [if_pos rfl]
      exact if_pos (by decide)
    · have : k = 5 := by omega
      subst this
      rw [if_pos rfl]
      show (if (4 : Int32) < nI 5 then _ else _) = _
      rw [if_pos (by decide), w18, if_neg (show ¬ ¬ (-1 : Int32) = -1 from fun q => q rfl), ckI_at (i := 2) (by decide), ckI_at (i := 2) (by decide)]
      show some ((), wI (wI ν 26 0 18 (-1)) 27 0 2 ((wI ν 26 0 18 (-1)).1 27 0 2)) = _
      rw [wI_id]
    · simp only [w18, if_pos (nI_m1 (show n < 2 ^ 31 by omega)), ck2]
      exact ite_self _
  · refine ⟨fun k h1 hk => ?_, fun n k hn => ?_⟩
    · have hk4 : ¬ (4 : Int32) < nI k := nI_nlt (a := 4) (by omega) (by decide)
      have hm : (s + k - 1) % 4 < 4 := Nat.mod_lt _ (by decide)
      have v2 : (wI ν 26 0 18 (-1)).1 27 0 (2 : Int32).toNatClampNeg = tN ν 2 := wI_o (by omega)
      have ev : (μ.1 12 i 5 + nI k) - (μ.1 12 i 5 + nI k) / (4 : Int32) * (4 : Int32) = nI ((s + k - 1) % 4) := by
        rw [← ho, hadd k h1, show (4 : Int32) = nI 4 from rfl, remN (by omega) (by decide) (by decide)]
      have ev2 : (tN ν 2 + nI k) - (tN ν 2 + nI k) / (4 : Int32) * (4 : Int32) = nI ((s + k - 1) % 4) := by rw [ho]; exact ev
      obtain ⟨hb, hE⟩ := hM _ hm
      obtain ⟨wa, w1, w2⟩ := pr_wants (i := i) (ν := wI ν 26 0 18 (-1)) hm hp r0 h5 hc hI (b := bt M ((s + k - 1) % 4)) hb hE
      simp only [r1, ev, v2, ev2]
      rw [if_neg hk4, ckB_ok hi, ckB_ok hi, ckD_ok (by decide), if_neg (nI_pos (by omega)), bit_at (by omega), ckI_nI hm (by decide), nI_clamp (by omega), if_neg hk4, w18, if_neg (show ¬ ¬ (-1 : Int32) = -1 from fun q => q rfl), ckI_at (i := 2) (by decide), ckD_ok (by decide), w2, bnd_some, nI_1]
      have skip : ∃ v : Int32, (v = -1 ∨ ∃ n : Nat, n < 4 ∧ v = nI n) ∧ f μ (nI (k + 1)) = some (v, if v = -1 then μ else wI μ 12 i 5 v) ∧ g (wI (wI ν 26 0 18 (-1)) 26 0 18 (-1)) (nI (k + 1)) = some ((), if v = -1 then wI ν 26 0 18 (-1) else wI (wI ν 26 0 18 v) 27 0 2 v) := by
        rw [wI_wI]; exact ih.1 (k + 1) (by omega) (by omega)
      cases hbb : bt M ((s + k - 1) % 4)
      · simp only [Bool.false_and, if_pos (show ¬ b2 false = 1 by decide), if_pos (show b2 false = 0 from rfl)]
        exact skip
      · have w1' := w1 hbb
        simp only [Bool.true_and, if_neg (show ¬ ¬ b2 true = 1 from fun q => q rfl)]
        rw [w1', bnd_some]
        cases wa
        · simp only [if_pos (show b2 false = 0 from rfl)]
          exact skip
        · simp only [if_neg (show ¬ b2 true = 0 by decide)]
          refine ⟨nI ((s + k - 1) % 4), Or.inr ⟨_, hm, rfl⟩, ?_, ?_⟩
          · rw [r1, ckB_ok hi, if_neg (nI_m1 (by omega))]
          · rw [wI_wI, if_neg (nI_m1 (by omega))]
            exact ih.2 _ _ hm
    · simp only [w18, if_pos (nI_m1 (show n < 2 ^ 31 by omega)), ck2]
      exact ite_self _
end
