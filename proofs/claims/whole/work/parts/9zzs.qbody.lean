/-! QUERY: the whole reading and the answer -/
def FmR (ν ν' : Mem) : Prop := (∀ κ a q, ¬ (κ = 26 ∧ a = 0 ∧ (q = 21 ∨ 23 ≤ q ∧ q ≤ 29 ∨ q = 46)) → ¬ (κ = 28 ∧ (a = 15 ∨ a = 16)) → ν'.1 κ a q = ν.1 κ a q) ∧ ν'.2 = ν.2
theorem c_ansB {F a8 p : Nat} {m x15 : Int32} {μ2 μ3 : Mem} (hp : p < 2) (h4 : μ2.2.1 0 0 4 = p) (he : fX4_engineMask F p μ2 = some (x15, μ2)) (hx : fX11_expectEnd 0 μ2 = some ((), μ3)) (h7 : ¬ μ3.1 2 0 7 = 0) :
    cQe F a8 m μ2 = some (.inr ((-1000000000 : Int32) - μ3.1 2 0 7), wI μ3 0 0 2 (μ3.1 2 0 8)) := by
  have e7 : (wI μ3 0 0 2 (μ3.1 2 0 8)).1 2 0 7 = μ3.1 2 0 7 := wI_o (by omega)
  unfold cQe
  rw [h4, ckB_ok hp, he, bnd_some, hx, bnd_some, e7, if_neg h7]
theorem c_ansG {F a8 p : Nat} {m x15 : Int32} {μ2 μ3 : Mem} (hp : p < 2) (h4 : μ2.2.1 0 0 4 = p) (he : fX4_engineMask F p μ2 = some (x15, μ2)) (hx : fX11_expectEnd 0 μ2 = some ((), μ3)) (h7 : μ3.1 2 0 7 = 0) (hF : ∃ fu, F = fu + 5) (hb : ∀ q, 4 ≤ q → q < 32 → bt (m &&& x15) q = false) :
    cQe F a8 m μ2 = some (.inr (if a8 = 65 then cntG (bt (m &&& x15)) 0 0 4 else firstG (bt (m &&& x15)) 0 4), wI μ3 0 0 2 (μ3.1 2 0 8)) := by
  have e7 : (wI μ3 0 0 2 (μ3.1 2 0 8)).1 2 0 7 = μ3.1 2 0 7 := wI_o (by omega)
  obtain ⟨fu, rfl⟩ := hF
  unfold cQe
  rw [h4, ckB_ok hp, he, bnd_some, hx, bnd_some, e7, if_pos h7]
  by_cases g : a8 = 65
  · rw [if_neg (fun z => z g), if_pos g, c_count hb, bnd_some]
  · rw [if_pos g, if_neg g, c_firstE, bnd_some]
theorem m_ansB {F : Nat} {x6 : Int32} {ν : Mem} (h : ¬ ν.1 26 0 26 = 0) : mQe F x6 ν 1 = some ((-1000000000 : Int32) - ν.1 26 0 26, wI (wI ν 26 0 21 0) 26 0 28 (ν.1 26 0 27)) := by
  unfold mQe
  rw [m_chk1, bnd_some, m_finish, bnd_some, if_neg h, if_neg h, wI_o (by omega), wI_o (by omega)]
theorem m_ansG {F : Nat} {x6 : Int32} {ν : Mem} (h : ν.1 26 0 26 = 0) : mQe F x6 ν 1 = lp (fun _ _ _ => none) F (qB F x6) (wI (wI ν 26 0 21 0) 26 0 28 (-1)) 0 0 := by
  unfold mQe
  rw [m_chk1, bnd_some, m_finish, bnd_some, if_pos h, if_pos h]
theorem p_qBody {N n p : Nat} {c : Nat → Int32} (hn2 : n ≤ 200) (hp : p < 2) {μ ν : Mem} (h : PG N n c 0 μ ν) (hk : ν.1 26 0 46 = nI 0) (hdd : ν.1 26 0 29 = nI 0) (h4 : μ.2.1 0 0 4 = p) (hm : ∀ i, i < 4 → μ.1 8 (4 * p + i) 0 = 0 ∨ μ.1 8 (4 * p + i) 0 = 1) (hs : ∀ e, e < 4 → tN ν (476 + 21 * e) = μ.1 8 (4 * p + e) 0) (hv : ∀ e, e < 4 → μ.1 8 (4 * p + e) 0 = 1 → ∀ i, i < 12 → pvM ν e i = clsv μ e i) (hF : FLD ν) (fu : Nat) :
    ∃ x μ' ν', bnd (fX11_takeRole 0 8192 μ) (fun a8 μ7 => ckB a8 74 <| bnd (fgX6 (fu + 1001) 30 0 0 0 μ7) fun x11 μ10 => cQe (fu + 1001) a8 x11 μ10) = some (.inr x, μ') ∧ mQx (fu + 1001) ν = some (x, ν') ∧ (∃ μ3, FcQ μ μ3 ∧ μ' = wI μ3 0 0 2 (μ3.1 2 0 8)) ∧ FmR ν ν' ∧ μ'.1 0 0 2 = ν'.1 26 0 28 ∧ ν'.1 26 0 21 = 0 := by
  obtain ⟨a8, x6, μ1, ν1, a1, a2, a3, a4, a5, a6⟩ := p_qMode h fu
  rw [a1, bnd_some, ckB_ok a2, a3]
  have fin : ∀ m μ2 μ3 ν3, fgX6 (fu + 1001) 30 0 0 0 μ1 = some (m, μ2) → FcQ μ μ2 → fX11_expectEnd 0 μ2 = some ((), μ3) → FcQ μ2 μ3 → mQr (fu + 1001) x6 ν1 = mQe (fu + 1001) x6 ν3 1 → FmQ ν ν3 → ((∃ t' k', PG N n c t' μ3 ν3 ∧ k' ≤ 200 ∧ (a8 = 65 ∧ x6 = 0 ∨ a8 = 66 ∧ x6 = 1) ∧ ν3.1 26 0 46 = nI k' ∧ ∀ e, e < 4 → μ.1 8 (4 * p + e) 0 = 1 → VAL (peM ν e) (ν3.1 28 15) 0 k' (b2 (bt m e))) ∨ PB N n c μ3 ν3) →
      ∃ x μ' ν', (bnd (fgX6 (fu + 1001) 30 0 0 0 μ1) fun x11 μ10 => cQe (fu + 1001) a8 x11 μ10) = some (.inr x, μ') ∧ mQr (fu + 1001) x6 ν1 = some (x, ν') ∧ (∃ μ3, FcQ μ μ3 ∧ μ' = wI μ3 0 0 2 (μ3.1 2 0 8)) ∧ FmR ν ν' ∧ μ'.1 0 0 2 = ν'.1 26 0 28 ∧ ν'.1 26 0 21 = 0 := by
    intro m μ2 μ3 ν3 c1 c2 c3 c4 c5 c6 c7
    rw [c1, bnd_some, c5]
    have em := c_engMask (p := p) (μ := μ2) (fun i hi => by rw [c2.1 _ _ _ (by omega) (by omega)]; exact hm i hi) (fu + 996)
    have eb : (fun i => decide (μ2.1 8 (4 * p + i) 0 = 1)) = fun i => decide (μ.1 8 (4 * p + i) 0 = 1) := funext fun i => by rw [c2.1 _ _ _ (by omega) (by omega)]
    rw [eb] at em
    have e4 : μ2.2.1 0 0 4 = p := by rw [c2.2]; exact h4
    rcases c7 with ⟨t', k', pg, hk', hmode, hcc, hval⟩ | pb
    · obtain ⟨hT, hC, h6, h7, h26, hw, hB⟩ := pg
      have btm : ∀ q, q < 32 → bt (m &&& emask (fun i => decide (μ.1 8 (4 * p + i) 0 = 1)) 0 0 4) q = (bt m q && (decide (q < 4) && decide (μ.1 8 (4 * p + q) 0 = 1))) := fun q hq => by
        rw [bt_and, bt_emask 4 0 0 (by decide) q hq, bt_0, Bool.false_or]
        by_cases g : q < 4
        · rw [decide_eq_true g, decide_eq_true (show 0 ≤ q ∧ q < 0 + 4 by omega)]
        · rw [decide_eq_false g, decide_eq_false (show ¬ (0 ≤ q ∧ q < 0 + 4) by omega)]
      have cA := c_ansG (a8 := a8) (m := m) hp e4 em c3 h7 ⟨fu + 996, rfl⟩ (fun q q1 q2 => by rw [btm q q2, decide_eq_false (show ¬ q < 4 by omega), Bool.false_and, Bool.and_false])
      have nu : ∀ κ a q, ¬ (κ = 26 ∧ a = 0 ∧ (q = 21 ∨ 23 ≤ q ∧ q ≤ 29 ∨ q = 46)) → ¬ (κ = 28 ∧ a = 15) → (wI (wI ν3 26 0 21 0) 26 0 28 (-1)).1 κ a q = ν.1 κ a q := fun κ a q z w => by
        rw [wI_o (by omega), wI_o (by omega)]; exact c6.1 κ a q (by omega) w
      have tn : tN (wI (wI ν3 26 0 21 0) 26 0 28 (-1)) = tN ν := funext fun q => nu 27 0 q (by omega) (by omega)
      have pe1 : ∀ e, peM (wI (wI ν3 26 0 21 0) 26 0 28 (-1)) e = peM ν e := fun e => by
        funext x
        unfold peM pvM
        rw [tn]
      have c15 : (wI (wI ν3 26 0 21 0) 26 0 28 (-1)).1 28 15 = ν3.1 28 15 := funext fun q => by rw [wI_o (by omega), wI_o (by omega)]
      obtain ⟨ν', l1, l2, l3⟩ := m_qLoop (x6 := x6) (m := m) (ν := wI (wI ν3 26 0 21 0) 26 0 28 (-1)) (cc := k') (by rw [wI_o (by omega), wI_o (by omega)]; exact hcc) hk' (fun i i0 i1 => (nu _ _ _ (by omega) (by omega)).trans (hF i i0 i1)) (fun e he => by
        rw [tn, pe1, c15, hs e he]
        rcases hm e he with g | g
        · exact Or.inl g
        · exact Or.inr ⟨g, (hval e he g).2 []⟩) fu 4 0 0 (fu + 996) _ rfl (fun _ _ _ _ => rfl) rfl
      rw [tn] at l1
      have l1 : lp (fun _ _ _ => none) (fu + 1001) (qB (fu + 1001) x6) (wI (wI ν3 26 0 21 0) 26 0 28 (-1)) 0 0 = _ := l1
      have gg : ∀ j, 0 ≤ j → j < 0 + 4 → (fun e => decide (tN ν (476 + 21 * e) = 1) && bt m e) j = bt (m &&& emask (fun i => decide (μ.1 8 (4 * p + i) 0 = 1)) 0 0 4) j := fun j _ hj => by
        show (decide (tN ν (476 + 21 * j) = 1) && bt m j) = _
        rw [btm j (by omega), decide_eq_true (show j < 4 by omega), Bool.true_and, hs j (by omega), Bool.and_comm]
      rw [firstG_c 4 0 gg, cntG_c 4 0 0 gg] at l1
      refine ⟨_, _, ν', cA, ?_, ⟨μ3, fcq_trans c2 c4, rfl⟩, ⟨fun κ a q z w => (l2 κ a q (by omega)).trans (nu κ a q z (by omega)), l3.trans c6.2⟩, ?_, ?_⟩
      · rw [m_ansG h26, l1]
        rcases hmode with ⟨g1, g2⟩ | ⟨g1, g2⟩
        · rw [if_pos g2, if_pos g1]
        · rw [if_neg (by rw [g2]; decide), if_neg (by rw [g1]; decide)]
      · rw [wI_same, l2 _ _ _ (by omega), wI_same]; exact hC.2.2.2.2.2.2 h7
      · rw [l2 _ _ _ (by omega), wI_o (by omega)]; exact wI_same
    · have cA := c_ansB (a8 := a8) (m := m) hp e4 em c3 pb.2.2.2.1
      refine ⟨_, _, wI (wI ν3 26 0 21 0) 26 0 28 (ν3.1 26 0 27), cA, ?_, ⟨μ3, fcq_trans c2 c4, rfl⟩, ?_, ?_, ?_⟩
      · rw [m_ansB (b_err pb), pb.2.2.2.2.1]
      · exact ⟨fun κ a q z w => by rw [wI_o (by omega), wI_o (by omega)]; exact c6.1 κ a q (by omega) (by omega), c6.2⟩
      · rw [wI_same, wI_same]; exact pb.2.2.2.2.2.1
      · rw [wI_o (by omega)]; exact wI_same
  have fm1 : FmQ ν ν1 := ⟨fun κ a q z _ => a5.1 κ a q (by omega), a5.2⟩
  rcases a6 with ⟨pg, hmode⟩ | pb
  · have hx : HX (fun e => μ.1 8 (4 * p + e) 0 = 1) (fun e => peM ν e) μ1 := hx_c (fun e he g i hi => by show peM ν e (nI i) = _; rw [peM_nI hi, hv e he g i hi]) a4
    obtain ⟨m, μ2, ν2, r1, r2, r3, r4, -, r6⟩ := (p_rec (X := fun e => μ.1 8 (4 * p + e) 0 = 1) (pe := fun e => peM ν e) hn2 fu 30 0 (by decide)).2.2 (by decide) 1 0 μ1 ν1 pg ((a5.1 _ _ _ (by omega)).trans hk) ((a5.1 _ _ _ (by omega)).trans hdd) (by decide) hx
    have eM : mQr (fu + 1001) x6 ν1 = if ¬ ν2.1 26 0 26 = 0 then mQe (fu + 1001) x6 ν2 1 else if ¬ ν2.1 26 0 25 = 0 then mQe (fu + 1001) x6 ν2 0 else mQe (fu + 1001) x6 ν2 1 := by
      unfold mQr
      rw [r2, bnd_some]
    rcases r6 with ⟨t', k', q1, q2, q3, q4, q5, q6, q7⟩ | pb
    · obtain ⟨μ3, ν3, s1, s2, s3, s4, s5⟩ := p_expEnd q4
      have ht' : t' ≤ n := q4.2.2.2.2.2.1.2.1
      refine fin m μ2 μ3 ν3 r1 (fcq_trans a4 r3) s1 s3 (eM.trans (s2 _ _)) (fmq_trans (fmq_trans fm1 r4) s4) ?_
      rcases s5 with ⟨rfl, rfl⟩ | pb
      · exact Or.inl ⟨t', k', q4, by omega, hmode, q5, q7⟩
      · exact Or.inr pb
    · exact fin m μ2 μ2 ν2 r1 (fcq_trans a4 r3) (b_expEnd pb).1 ⟨fun _ _ _ _ _ => rfl, rfl⟩ (eM.trans ((b_expEnd pb).2 _ _)) (fmq_trans fm1 r4) (Or.inr pb)
  · obtain ⟨m, μ2, r1, r2⟩ := d_rec fu (pb_dd pb) 27 0
    have pb2 : PB N n c μ2 ν1 := pb_c pb (fun κ a q z => r2.1 κ a q (by omega)) (by rw [r2.2])
    have eM : mQr (fu + 1001) x6 ν1 = mQe (fu + 1001) x6 ν1 1 := by
      unfold mQr
      rw [show fgX13c (fu + 1001) 30 0 0 ν1 = some ((), ν1) from b_rec fu pb 27, bnd_some]
      exact (b_expEnd pb).2 _ _
    have f2 : FcQ μ1 μ2 := ⟨fun κ a q _ w => r2.1 κ a q w, r2.2⟩
    exact fin m μ2 μ2 ν1 r1 (fcq_trans a4 f2) (b_expEnd pb2).1 ⟨fun _ _ _ _ _ => rfl, rfl⟩ eM fm1 (Or.inr pb2)
