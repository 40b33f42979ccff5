/-! THE INSTRUCTIONS in pairs -/
theorem ckI_at {α : Type} {i : Int32} {n : Nat} {o : Option α} (h : ¬ (i < 0 ∨ n ≤ i.toNatClampNeg)) : ckI i n o = o := if_pos h
theorem uns_ex (x : Int64) : ∃ u : Nat, u < 2 ^ 32 ∧ x &&& 4294967295 = lN u := by
  refine ⟨(x &&& 4294967295).toBitVec.toNat, ?_, ?_⟩
  · rw [Int64.toBitVec_and, BitVec.toNat_and]
    show x.toBitVec.toNat &&& 4294967295 < _
    rw [show 4294967295 = 2 ^ 32 - 1 from rfl, Nat.and_two_pow_sub_one_eq_mod]
    exact Nat.mod_lt _ (by decide)
  · refine Int64.toBitVec_inj.mp ?_
    show _ = BitVec.ofNat 64 _
    rw [BitVec.ofNat_toNat, BitVec.setWidth_eq]
section
variable {p i e cnt : Nat} {nx : Int32} {μ0 ν0 μ ν : Mem} {w : Bool}
theorem rt_true (h : RT i e cnt nx μ0 ν0 μ ν w) : RT i e cnt nx μ0 ν0 μ ν true := by
  obtain ⟨a, b, c, d, e, f, g, hp⟩ := h
  exact ⟨a, b, c, d, e, f, g, ⟨fun q => Bool.noConfusion q, hp.2⟩⟩
/-- pins written by a group, t: 0 the latches, 7 the directions -/
def wrM (t b s : Nat) (v : Int32) (e : Nat) (ν : Mem) : Mem := wI (wI (wI (wI ν 28 2 e (nI t)) 28 3 e (nI b)) 28 4 e (nI s)) 28 5 e v
theorem wrM_o {t b s : Nat} {v : Int32} {κ n k : Nat} (h : ¬ (κ = 28 ∧ (n = 2 ∨ n = 3 ∨ n = 4 ∨ n = 5) ∧ k = e)) : (wrM t b s v e ν).1 κ n k = ν.1 κ n k := by
  unfold wrM
  rw [wI_o (by omega), wI_o (by omega), wI_o (by omega), wI_o (by omega)]
theorem apW_wr {t b s q : Nat} {v : Int32} {L D : Nat → Bool} (hb : b < 16) (hs : s ≤ 16) (ht : t = 0 ∨ t = 7) : apW (wrM t b s v e ν) e L D q = if t = 7 then (L q, wrB b s v D q) else (wrB b s v L q, D q) := by
  have e2 : (wrM t b s v e ν).1 28 2 e = nI t := by unfold wrM; rw [wI_o (by omega), wI_o (by omega), wI_o (by omega)]; exact wI_same
  have e3 : (wrM t b s v e ν).1 28 3 e = nI b := by unfold wrM; rw [wI_o (by omega), wI_o (by omega)]; exact wI_same
  have e4 : (wrM t b s v e ν).1 28 4 e = nI s := by unfold wrM; rw [wI_o (by omega)]; exact wI_same
  have e5 : (wrM t b s v e ν).1 28 5 e = v := wI_same
  unfold apW
  rw [e2, e3, e4, e5, nI_clamp (by omega), nI_clamp (by omega)]
  rcases ht with rfl | rfl
  · rw [if_neg (by decide), if_neg (by decide), if_neg (by decide)]
  · rw [if_neg (by decide), if_pos (by decide), if_pos (by decide)]
theorem rt_wr {t b s : Nat} {v m : Int32} (hb : b < 16) (hs : s ≤ 16) (ht : t = 0 ∨ t = 7) (hm : ∀ q, q < 32 → bt m q = (decide (q < 16) && grpM b s q)) (h : RT i e cnt nx μ0 ν0 μ ν false) :
    RT i e cnt nx μ0 ν0 (wI μ 12 i (if t = 7 then 2 else 1) ((μ.1 12 i (if t = 7 then 2 else 1) &&& (m ^^^ (-1))) ||| (rotP v (nI b) &&& m))) (wrM t b s v e ν) true := by
  obtain ⟨⟨h1, h2⟩, hc, hm', hE, ha, ⟨hr1, hr2⟩, hx, hp⟩ := h
  obtain ⟨p1, p2, p3⟩ := hp.1 rfl
  have k1 : (if t = 7 then 2 else 1) = 1 ∨ (if t = 7 then 2 else 1) = 2 := by split <;> omega
  generalize hk : (if t = 7 then 2 else 1) = kk at k1
  refine ⟨⟨h1, h2⟩, fr_c hc (Or.inr (Or.inr (Or.inr (Or.inl ⟨rfl, rfl, k1⟩)))), fun κ n k q => ?_, relE_put (k := 0) (v := (wI μ 12 i kk ((μ.1 12 i kk &&& (m ^^^ (-1))) ||| (rotP v (nI b) &&& m))).1 18 (4 * i + e) 0) (by decide) (fun c => ?_) (fun c => wI_o (by omega)) (fun t c _ => wI_o (by omega)) (fun t c _ => wI_o (by omega)) (fun c hc => ?_) (fun q => by omega) (fun q => by omega) (fun q => by omega) hE, fun a ha' => ?_, ⟨?_, ?_⟩, ?_, fun q => Bool.noConfusion q, Or.inr ⟨?_, b, s, hb, hs, ?_, ?_⟩, fun q hq => ?_⟩
  · rw [wrM_o (fun z => q (Or.inr (Or.inr ⟨z.1, by omega, z.2.2⟩)))]; exact hm' κ n k q
  · split
    · rename_i hh; rw [hh]
    · exact wI_o (by omega)
  · show tN (wrM t b s v e ν) _ = _
    rw [show tN (wrM t b s v e ν) (560 + 35 * e + c) = tN ν (560 + 35 * e + c) from wrM_o (by omega)]
    split
    · rename_i hh; rw [hh, wI_o (by omega)]; exact hE.2.2.1 0 (by decide)
    · rfl
  · rw [show tN (wrM t b s v e ν) (108 + a) = tN ν (108 + a) from wrM_o (by omega), wI_o (by omega)]; exact ha a ha'
  · rw [wrM_o (by omega), wI_o (by omega)]; exact hr1
  · rw [wrM_o (by omega), wI_o (by omega)]; exact hr2
  · rw [wrM_o (by omega), wI_o (by omega)]; exact hx
  · have e2 : (wrM t b s v e ν).1 28 2 e = nI t := by unfold wrM; rw [wI_o (by omega), wI_o (by omega), wI_o (by omega)]; exact wI_same
    rw [e2]
    rcases ht with rfl | rfl
    · exact Or.inl rfl
    · exact Or.inr rfl
  · unfold wrM; rw [wI_o (by omega), wI_o (by omega)]; exact wI_same
  · unfold wrM; rw [wI_o (by omega)]; exact wI_same
  · rw [apW_wr hb hs ht]
    rcases ht with rfl | rfl
    · rw [if_neg (by decide)] at hk ⊢
      subst hk
      rw [wI_same, wI_o (by omega), p1, p2, bt_group hb hq hm]
    · rw [if_pos (by decide)] at hk ⊢
      subst hk
      rw [wI_same, wI_o (by omega), p1, p2, bt_group hb hq hm]
theorem m_wpins (h : RT i e cnt nx μ0 ν0 μ ν w) (he : e < 4) {t g b s : Nat} {v : Int32} (ht : t = 0 ∨ t = 7) (hg : g < 3) (hb : tN ν0 (476 + 21 * e + (5 + 2 * g)) = nI b) (hs : tN ν0 (476 + 21 * e + (6 + 2 * g)) = nI s) :
    fX13_write 0 (nI e) (nI t) v (nI (5 + 2 * g)) ν = some (0, wrM t b s v e ν) := by
  have go : ckI (nI e) (mil.getD 2 0) (bnd (fX13_setting 0 (nI e) (nI (5 + 2 * g)) (wI ν 28 2 (nI e).toNatClampNeg (nI t))) fun x5 μ4 => ckI (nI e) (mil.getD 3 0) (bnd (fX13_setting 0 (nI e) (nI (5 + 2 * g) + (1 : Int32)) (wI μ4 28 3 (nI e).toNatClampNeg x5)) fun x8 μ7 => ckI (nI e) (mil.getD 4 0) (ckI (nI e) (mil.getD 5 0) (some ((0 : Int32), wI (wI μ7 28 4 (nI e).toNatClampNeg x8) 28 5 (nI e).toNatClampNeg v))))) = some (0, wrM t b s v e ν) := by
    rw [ckI_nI (by exact he) (by decide), nI_clamp (by omega), r_setting (by omega), bnd_some, ckI_nI (by exact he) (by decide), nI_1, r_setting (by omega), bnd_some, ckI_nI (by exact he) (by decide), ckI_nI (by exact he) (by decide), tN_o (Or.inl (by decide)), tN_o (Or.inl (by decide)), tN_o (Or.inl (by decide)), rt_S h he (by omega), hb, show 5 + 2 * g + 1 = 6 + 2 * g by omega, rt_S h he (by omega), hs]
    rfl
  unfold fX13_write
  simp only [jn_eq, nm_eq]
  rcases ht with rfl | rfl
  · rw [if_pos (by decide)]; exact go
  · rw [if_neg (by decide), if_neg (by decide), if_neg (by decide), if_neg (by decide), if_neg (by decide), if_neg (by decide), if_neg (by decide), if_pos (by decide)]; exact go
theorem pr_jumpTo (B : BS p i e cnt μ0 ν0) (h : RT i e cnt nx μ0 ν0 μ ν w) (v : Int32) : ∃ a : Nat, a < cnt ∧ fX4_addressOf p v μ = some (nI a, μ) ∧ fX13_jumpToWord 0 v ν = some ((), wI ν 26 0 19 (nI a)) := by
  obtain ⟨_, ⟨h0, h32, t0, c5⟩, _⟩ := B
  obtain ⟨u, hu, eu⟩ := uns_ex v.toInt64
  have hc : (nI cnt).toInt64 = lN cnt := nI_l (by omega)
  have hn : ¬ lN cnt = 0 := fun q => absurd ((pk_lEQ (by omega) (by decide)).mp (show lN cnt = lN 0 from q)) (by omega)
  refine ⟨u % cnt, Nat.mod_lt _ h0, ?_, ?_⟩
  · unfold fX4_addressOf fX12_unsigned
    simp only [jn_eq]
    rw [rt_5 h, c5, if_pos (nI_ne0 h0 (by omega)), bnd_some, eu, rt_5 h, c5, hc]
    unfold ckL
    rw [if_pos hn, pk_lRem (by omega) h0 (by omega), lN_i]
  · unfold fX13_jumpToWord fX13_unsigned
    simp only [nm_eq]
    have e0 : ν.1 27 0 (0 : Int32).toNatClampNeg = nI cnt := (rt_T0 h).trans t0
    rw [bnd_some, ckI_at (i := 0) (by decide), eu, e0, hc]
    unfold ckL
    rw [if_pos hn, pk_lRem (by omega) h0 (by omega), lN_i]
/-- the group for out, of the setting -/
theorem bs_grp (B : BS p i e cnt μ0 ν0) {g : Nat} (hg : g < 3) : ∃ b s : Nat, b < 16 ∧ s ≤ 16 ∧ tN ν0 (476 + 21 * e + (5 + 2 * g)) = nI b ∧ tN ν0 (476 + 21 * e + (6 + 2 * g)) = nI s ∧ μ0.1 8 (4 * p + e) (5 + 2 * g) = nI b ∧ ∀ q, q < 32 → bt (μ0.1 8 (4 * p + e) (6 + 2 * g)) q = (decide (q < 16) && grpM b s q) := B.2.2.2.1.2.2.2.2.2.2.1 g hg
theorem pr_write (B : BS p i e cnt μ0 ν0) (h : RT i e cnt nx μ0 ν0 μ ν false) {c s : Nat} (hp : isPl c s) (h4 : c ≠ 4) (h5 : c ≠ 5) (h6 : c ≠ 6) (v : Int32) :
    ∃ μ' ν', fX9_deliver 0 s v (4 * i + e) (4 * p + e) μ = some ((), μ') ∧ fX13_write 0 (nI e) (nI c) v 5 ν = some (0, ν') ∧ RT i e cnt nx μ0 ν0 μ' ν' true := by
  obtain ⟨b, s', hb, hs, g1, g2, g3, g4⟩ := bs_grp B (g := 0) (by decide)
  obtain ⟨⟨hp2, hi, he, r0, r1⟩, _⟩ := id B
  have q1 : μ.2.1 22 0 1 = i := (rt_r h).trans r1
  have q0 : μ.2.1 22 0 0 = p := (rt_r h).trans r0
  have e5 : μ.1 8 (4 * p + e) 5 = nI b := (rt_8 h).trans g3
  have e6 : μ.1 8 (4 * p + e) 6 = μ0.1 8 (4 * p + e) 6 := rt_8 h
  rcases plS_at hp with ⟨rfl, rfl⟩ | ⟨rfl, rfl⟩ | ⟨rfl, rfl⟩ | ⟨rfl, rfl⟩ | ⟨rfl, rfl⟩ | ⟨rfl, rfl⟩ | ⟨rfl, rfl⟩ | ⟨rfl, rfl⟩ | ⟨rfl, rfl⟩
  · refine ⟨_, _, ?_, m_wpins h he (t := 0) (g := 0) (Or.inl rfl) (by decide) g1 g2, rt_wr hb hs (Or.inl rfl) g4 h⟩
    unfold fX9_deliver
    simp only [jn_eq]
    refine (sw_at (v := 19) (by decide)).trans ?_
    rw [if_pos (by decide), q1, nm_eq, ckB_ok hi, c_rot, bnd_some, e5, e6]
    rfl
  · refine ⟨wI μ 18 (4 * i + e) 1 v, wI ν 27 0 (560 + 35 * e + (1 + 1)) v, ?_, ?_, rt_true (rt_w (k := 1) (by decide) (fun q => by omega) (fun q => by omega) (fun q => by omega) h)⟩
    · unfold fX9_deliver
      simp only [jn_eq]
      exact (sw_at (v := 20) (by decide)).trans rfl
    · have es : fX13_set 0 (nI e) 2 v ν = some ((), wI ν 27 0 (560 + 35 * e + 2) v) := r_set (f := 2) (by omega)
      unfold fX13_write
      simp only [jn_eq]
      rw [if_neg (by decide), if_pos (by decide), es, bnd_some]
  · refine ⟨wI μ 18 (4 * i + e) 2 v, wI ν 27 0 (560 + 35 * e + (2 + 1)) v, ?_, ?_, rt_true (rt_w (k := 2) (by decide) (fun q => by omega) (fun q => by omega) (fun q => by omega) h)⟩
    · unfold fX9_deliver
      simp only [jn_eq]
      exact (sw_at (v := 21) (by decide)).trans rfl
    · have es : fX13_set 0 (nI e) 3 v ν = some ((), wI ν 27 0 (560 + 35 * e + 3) v) := r_set (f := 3) (by omega)
      unfold fX13_write
      simp only [jn_eq]
      rw [if_neg (by decide), if_neg (by decide), if_pos (by decide), es, bnd_some]
  · refine ⟨μ, ν, ?_, ?_, rt_true h⟩
    · unfold fX9_deliver
      simp only [jn_eq]
      exact (sw_at (v := 0) (by decide)).trans rfl
    · unfold fX13_write
      simp only [jn_eq]
      rw [if_neg (by decide), if_neg (by decide), if_neg (by decide), if_pos (by decide)]
  · exact absurd rfl h4
  · exact absurd rfl h5
  · exact absurd rfl h6
  · refine ⟨_, _, ?_, m_wpins h he (t := 7) (g := 0) (Or.inr rfl) (by decide) g1 g2, rt_wr hb hs (Or.inr rfl) g4 h⟩
    unfold fX9_deliver
    simp only [jn_eq]
    refine (sw_at (v := 25) (by decide)).trans ?_
    rw [if_neg (by decide), if_neg (by decide), if_neg (by decide), if_neg (by decide), if_neg (by decide), if_neg (by decide), if_pos (by decide), q1, nm_eq, ckB_ok hi, c_rot, bnd_some, e5, e6]
    rfl
  · obtain ⟨a, ha, e1, e2⟩ := pr_jumpTo B h v
    refine ⟨_, _, ?_, ?_, rt_true (rt_next ha h)⟩
    · unfold fX9_deliver
      simp only [jn_eq]
      refine (sw_at (v := 26) (by decide)).trans ?_
      rw [if_neg (by decide), if_neg (by decide), if_neg (by decide), if_neg (by decide), if_neg (by decide), if_neg (by decide), if_neg (by decide), if_pos (by decide), q0, nm_eq, ckB_ok hp2, e1, bnd_some, nm_eq]
    · unfold fX13_write
      simp only [jn_eq]
      rw [if_neg (by decide), if_neg (by decide), if_neg (by decide), if_neg (by decide), if_neg (by decide), if_neg (by decide), if_neg (by decide), if_neg (by decide), if_pos (by decide), e2, bnd_some]
end
