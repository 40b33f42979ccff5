/-! promise 5: feed -/
theorem byte_byte (x : Int32) : (vp_nar .byte (x.toInt8.toInt32)).toInt8.toInt32 = vp_nar .byte (x.toInt8.toInt32) := by
  show x.toInt8.toInt32.toInt8.toInt32.toInt8.toInt32 = x.toInt8.toInt32.toInt8.toInt32
  rw [Int8.toInt8_toInt32]
theorem byte_255 (x : Int32) : (vp_nar .byte (x.toInt8.toInt32)) &&& 255 = x &&& 255 := by
  have e : vp_nar .byte (x.toInt8.toInt32) = x.toInt8.toInt32.toInt8.toInt32 := rfl
  have e2 : x.toInt8.toInt32.toInt8 = x.toInt8 := Int8.toInt8_toInt32 _
  rw [e, e2]
  refine bt_ext fun q hq => ?_
  have m : ∀ q, q < 32 → 8 ≤ q → bt (255 : Int32) q = false := by decide
  rw [bt_and, bt_and]
  by_cases h : q < 8
  · have : bt x.toInt8.toInt32 q = bt x q := by
      unfold bt
      rw [Int8.toBitVec_toInt32, BitVec.getLsbD_signExtend, if_pos h, Int32.toBitVec_toInt8, BitVec.getLsbD_signExtend, if_pos (by omega)]
      simp [h, hq]
    rw [this]
  · rw [m q hq (by omega), Bool.and_false, Bool.and_false]
def FB (n s : Nat) (g : Nat → Int32) (μ μ' : Mem) : Prop :=
  μ'.1 0 0 1 = nI (n + s) ∧ (∀ j, j < s → μ'.1 1 0 (n + j) &&& 255 = g j ∧ (μ'.1 1 0 (n + j)).toInt8.toInt32 = μ'.1 1 0 (n + j)) ∧ (∀ κ a k, ¬ (κ = 1 ∧ a = 0 ∧ n ≤ k ∧ k < n + s) → ¬ (κ = 0 ∧ a = 0 ∧ k = 1) → μ'.1 κ a k = μ.1 κ a k) ∧ μ'.2 = μ.2
theorem fb_next {n s : Nat} {g : Nat → Int32} {μ μ' : Mem} {v : Int32} (h : FB n s g μ μ') (hv : v &&& 255 = g s ∧ v.toInt8.toInt32 = v) : FB n (s + 1) g μ (wI (wI μ' 1 0 (n + s) v) 0 0 1 (nI (n + s + 1))) := by
  obtain ⟨a, b, c, d⟩ := h
  refine ⟨wI_same, fun j hj => ?_, fun κ a k x y => ?_, d⟩
  · rw [wI_o (by omega)]
    by_cases e : j = s
    · rw [e, wI_same]; exact hv
    · rw [wI_o (by omega)]; exact b j (by omega)
  · rw [wI_o (by omega), wI_o (by omega)]; exact c κ a k (by omega) y
theorem fb_trans {n s t : Nat} {g g' : Nat → Int32} {μ μ' μ'' : Mem} (h : FB n s g μ μ') (h2 : FB (n + s) t g' μ' μ'') (hg : ∀ j, j < t → g' j = g (s + j)) : FB n (s + t) g μ μ'' := by
  obtain ⟨a, b, c, d⟩ := h
  obtain ⟨a2, b2, c2, d2⟩ := h2
  refine ⟨a2.trans (by rw [Nat.add_assoc]), fun j hj => ?_, fun κ a k x y => (c2 κ a k (by omega) y).trans (c κ a k (by omega) y), d2.trans d⟩
  by_cases e : j < s
  · rw [c2 1 0 (n + j) (by omega) (by omega)]; exact b j e
  · have := b2 (j - s) (by omega)
    rw [hg _ (by omega), show s + (j - s) = j by omega, show n + s + (j - s) = n + j by omega] at this
    exact this
theorem fb_congr {n s : Nat} {g g' : Nat → Int32} {μ μ' : Mem} (h : FB n s g μ μ') (hg : ∀ j, j < s → g j = g' j) : FB n s g' μ μ' := ⟨h.1, fun j hj => ⟨(h.2.1 j hj).1.trans (hg j hj), (h.2.1 j hj).2⟩, h.2.2⟩
def gB (w : Int32) (m : Nat) : Int32 := (w >>> ((24 - 8 * nI m) &&& 31)) &&& 255
theorem c_appendBytes {n : Nat} {w : Int32} {μ : Mem} (hn : n + 4 ≤ 1000) (h : μ.1 0 0 1 = nI n) (fu : Nat) : ∃ μ', fX12_appendBytes (fu + 5) 0 w μ = some ((), μ') ∧ FB n 4 (gB w) μ μ' := by
  unfold fX12_appendBytes
  simp only [jn_eq, nm_eq]
  refine lp_ind (P := fun r (f : Mem → Int32 → Option (Unit × Mem)) => ∀ m μ', m + r = 4 → FB n m (gB w) μ μ' → ∃ μ'', f μ' (24 - 8 * nI m) = some ((), μ'') ∧ FB n 4 (gB w) μ μ'') (fun f m μ' hm hF => ?_) (fun r f ih m μ' hm hF => ?_) 4 fu 0 μ rfl ⟨h, fun j hj => absurd hj (by omega), fun _ _ _ _ _ => rfl, rfl⟩
  · have : m = 4 := by omega
    subst this
    exact ⟨μ', if_pos (by decide), hF⟩
  · have h4 : m = 0 ∨ m = 1 ∨ m = 2 ∨ m = 3 := by omega
    have n1 : ¬ ((24 : Int32) - 8 * nI m < 0) := by rcases h4 with rfl | rfl | rfl | rfl <;> decide
    have n2 : ((24 : Int32) - 8 * nI m) + (-8) = 24 - 8 * nI (m + 1) := by rcases h4 with rfl | rfl | rfl | rfl <;> decide
    have l : μ'.1 0 0 1 = nI (n + m) := hF.1
    rw [if_neg n1, l, if_neg (show ¬ (1000 : Int32) ≤ nI (n + m) from fun z => absurd ((nI_leI (a := 1000) (by decide) (by omega)).1 z) (by omega)), ckI_nI (show n + m < 1000 by omega) (by decide), nI_clamp (n := n + m) (by omega),
      show ∀ v, (wI μ' 1 0 (n + m) v).1 0 0 1 = nI (n + m) from fun v => (wI_o (by omega)).trans l, nI_1, n2]
    exact ih (m + 1) _ (by omega) (fb_next hF ⟨byte_255 _, byte_byte _⟩)
def wsel (a b c d e : Int32) (j : Nat) : Int32 := if j < 4 then a else if j < 8 then b else if j < 12 then c else if j < 16 then d else e
def gF (a b c d e : Int32) (j : Nat) : Int32 := gB (wsel a b c d e j) (j % 4)
theorem c_feed {n : Nat} {a b c d e : Int32} {μ : Mem} (hn : n + 20 ≤ 1000) (h : μ.1 0 0 1 = nI n) (fu : Nat) : ∃ μ', fX12_feed (fu + 5) 0 a b c d e μ = some (nI (n + 20), μ') ∧ FB n 20 (gF a b c d e) μ μ' := by
  unfold fX12_feed
  have ge : ∀ (t : Nat) (w : Int32), t % 4 = 0 → (∀ j, j < 4 → wsel a b c d e (t + j) = w) → ∀ j, j < 4 → gB w j = gF a b c d e (t + j) := fun t w ht hw j hj => by
    unfold gF
    rw [hw j hj, show (t + j) % 4 = j by omega]
  obtain ⟨μ1, e1, f1⟩ := c_appendBytes (w := a) (μ := μ) (by omega) h fu
  obtain ⟨μ2, e2, f2⟩ := c_appendBytes (w := b) (μ := μ1) (by omega) f1.1 fu
  obtain ⟨μ3, e3, f3⟩ := c_appendBytes (w := c) (μ := μ2) (by omega) f2.1 fu
  obtain ⟨μ4, e4, f4⟩ := c_appendBytes (w := d) (μ := μ3) (by omega) f3.1 fu
  obtain ⟨μ5, e5, f5⟩ := c_appendBytes (w := e) (μ := μ4) (by omega) f4.1 fu
  have F1 : FB n 4 (gF a b c d e) μ μ1 := fb_congr f1 fun j hj => (ge 0 a rfl (fun j hj => if_pos (by omega)) j hj).trans (by rw [Nat.zero_add])
  have F2 := fb_trans F1 f2 (ge 4 b rfl (fun j hj => by unfold wsel; rw [if_neg (by omega), if_pos (by omega)]))
  have F3 := fb_trans F2 f3 (ge 8 c rfl (fun j hj => by unfold wsel; rw [if_neg (by omega), if_neg (by omega), if_pos (by omega)]))
  have F4 := fb_trans F3 f4 (ge 12 d rfl (fun j hj => by unfold wsel; rw [if_neg (by omega), if_neg (by omega), if_neg (by omega), if_pos (by omega)]))
  have F5 := fb_trans F4 f5 (ge 16 e rfl (fun j hj => by unfold wsel; rw [if_neg (by omega), if_neg (by omega), if_neg (by omega), if_neg (by omega)]))
  refine ⟨μ5, ?_, F5⟩
  rw [h, show nI n + (20 : Int32) = nI (n + 20) from nI_add n 20, if_pos (show nI (n + 20) ≤ (1000 : Int32) from (nI_leI (b := 1000) (by omega) (by decide)).2 hn), e1, bnd_some, e2, bnd_some, e3, bnd_some, e4, bnd_some, e5, bnd_some, F5.1]
def FBm (n s : Nat) (g : Nat → Int32) (ν ν' : Mem) : Prop :=
  ν'.1 26 0 21 = nI (n + s) ∧ (∀ j, j < s → ν'.1 28 7 (n + j) = g j) ∧ (∀ κ a k, ¬ (κ = 28 ∧ a = 7 ∧ n ≤ k ∧ k < n + s) → ¬ (κ = 26 ∧ a = 0 ∧ k = 21) → ν'.1 κ a k = ν.1 κ a k) ∧ ν'.2 = ν.2
theorem fm_next {n s : Nat} {g : Nat → Int32} {μ μ' : Mem} {v : Int32} (h : FBm n s g μ μ') (hv : v = g s) : FBm n (s + 1) g μ (wI (wI μ' 28 7 (n + s) v) 26 0 21 (nI (n + s + 1))) := by
  obtain ⟨a, b, c, d⟩ := h
  refine ⟨wI_same, fun j hj => ?_, fun κ a k x y => ?_, d⟩
  · rw [wI_o (by omega)]
    by_cases e : j = s
    · rw [e, wI_same]; exact hv
    · rw [wI_o (by omega)]; exact b j (by omega)
  · rw [wI_o (by omega), wI_o (by omega)]; exact c κ a k (by omega) y
theorem m_feed {n : Nat} {a b c d e : Int32} {ν : Mem} (hn : n + 20 ≤ 1000) (h : ν.1 26 0 21 = nI n) (fu : Nat) : ∃ ν', fX13_feed (fu + 21) 0 a b c d e ν = some (nI (n + 20), ν') ∧ FBm n 20 (gF a b c d e) (wI ν 26 0 6 0) ν' := by
  have h0 : (wI ν 26 0 6 0).1 26 0 21 = nI n := h
  unfold fX13_feed
  simp only [jn_eq, nm_eq]
  rw [h0, show nI n + (20 : Int32) = nI (n + 20) from nI_add n 20, if_pos (show nI (n + 20) ≤ (1000 : Int32) from (nI_leI (b := 1000) (by omega) (by decide)).2 hn)]
  generalize wI ν 26 0 6 0 = ν0 at h0 ⊢
  refine lp_ind (P := fun r (f : Mem → Int32 → Option (Int32 × Mem)) => ∀ j ν', j + r = 20 → FBm n j (gF a b c d e) ν0 ν' → ∃ ν'', f ν' (nI j) = some (nI (n + 20), ν'') ∧ FBm n 20 (gF a b c d e) ν0 ν'') (fun f j ν' hj hF => ?_) (fun r f ih j ν' hj hF => ?_) 20 fu 0 ν0 rfl ⟨h0, fun j hj => absurd hj (by omega), fun _ _ _ _ _ => rfl, rfl⟩
  · have : j = 20 := by omega
    subst this
    exact ⟨ν', (if_pos (by decide)).trans (by rw [hF.1]), hF⟩
  · have l : ν'.1 26 0 21 = nI (n + j) := hF.1
    have le : ∀ q : Nat, q < 100 → (nI q ≤ nI j ↔ q ≤ j) := fun q hq => nI_leI (by omega) (by omega)
    have st : ∀ w : Int32, w = wsel a b c d e j → ∃ ν'', (ckD (4 : Int32) <| ckI (ν'.1 26 0 21) (mil.getD 7 0) <|
        f (wI (wI ν' 28 7 (ν'.1 26 0 21).toNatClampNeg ((w >>> (((24 : Int32) - ((8 : Int32) * (nI j - nI j / (4 : Int32) * (4 : Int32)))) &&& 31)) &&& (255 : Int32))) 26 0 21 (((wI ν' 28 7 (ν'.1 26 0 21).toNatClampNeg ((w >>> (((24 : Int32) - ((8 : Int32) * (nI j - nI j / (4 : Int32) * (4 : Int32)))) &&& 31)) &&& (255 : Int32))).1 26 0 21) + (1 : Int32))) (nI j + (1 : Int32))) = some (nI (n + 20), ν'') ∧ FBm n 20 (gF a b c d e) ν0 ν'' := fun w hw => by
      rw [ckD_ok (by decide), l, ckI_nI (show n + j < mil.getD 7 0 from (show n + j < 1000 by omega)) (by decide), nI_clamp (n := n + j) (by omega), show (4 : Int32) = nI 4 from rfl, remN (by omega) (by decide) (by decide),
        show ∀ v, (wI ν' 28 7 (n + j) v).1 26 0 21 = nI (n + j) from fun v => (wI_o (by omega)).trans l, nI_1, nI_1]
      exact ih (j + 1) _ (by omega) (fm_next hF (by rw [hw]; rfl))
    rw [if_neg (show ¬ (20 : Int32) ≤ nI j from fun z => absurd ((le 20 (by decide)).1 z) (by omega))]
    by_cases h4 : j < 4
    · rw [if_neg (show ¬ (4 : Int32) ≤ nI j from fun z => absurd ((le 4 (by decide)).1 z) (by omega))]
      exact st a (by unfold wsel; rw [if_pos h4])
    · rw [if_pos (show (4 : Int32) ≤ nI j from (le 4 (by decide)).2 (by omega))]
      by_cases h8 : j < 8
      · rw [if_neg (show ¬ (8 : Int32) ≤ nI j from fun z => absurd ((le 8 (by decide)).1 z) (by omega))]
        exact st b (by unfold wsel; rw [if_neg h4, if_pos h8])
      · rw [if_pos (show (8 : Int32) ≤ nI j from (le 8 (by decide)).2 (by omega))]
        by_cases h12 : j < 12
        · rw [if_neg (show ¬ (12 : Int32) ≤ nI j from fun z => absurd ((le 12 (by decide)).1 z) (by omega))]
          exact st c (by unfold wsel; rw [if_neg h4, if_neg h8, if_pos h12])
        · rw [if_pos (show (12 : Int32) ≤ nI j from (le 12 (by decide)).2 (by omega))]
          by_cases h16 : j < 16
          · rw [if_neg (show ¬ (16 : Int32) ≤ nI j from fun z => absurd ((le 16 (by decide)).1 z) (by omega))]
            exact st d (by unfold wsel; rw [if_neg h4, if_neg h8, if_neg h12, if_pos h16])
          · rw [if_pos (show (16 : Int32) ≤ nI j from (le 16 (by decide)).2 (by omega))]
            exact st e (by unfold wsel; rw [if_neg h4, if_neg h8, if_neg h12, if_neg h16])
theorem op_feed {p : Nat} {μ ν : Mem} (h : Rel2 p μ ν) (a b c d e : Int32) (fu gu : Nat) : OpN p μ ν (fX12_feed (fu + 5) 0 a b c d e μ) (fX13_feed (gu + 21) 0 a b c d e ν) := by
  have h' := h
  obtain ⟨⟨r1, r2, r3, r4, r5, r6⟩, hP, hM, ⟨n, hn, b1, b2, b3⟩, hE, ⟨u, e', hu, he, u1, u2, e1, hist⟩, hS, hk3, hk9, hq, hz⟩ := h'
  by_cases hf : n + 20 ≤ 1000
  · obtain ⟨μ', x1, ⟨f1, f2, f3, f4⟩⟩ := c_feed (a := a) (b := b) (c := c) (d := d) (e := e) hf b1 fu
    obtain ⟨ν', y1, ⟨g1, g2, g3, g4⟩⟩ := m_feed (a := a) (b := b) (c := c) (d := d) (e := e) hf b2 gu
    have kw : ∀ {z : Nat}, z ≠ 0 → z ≠ 1 → μ'.1 z = μ.1 z := fun h0 h1 => funext fun n => funext fun k => f3 _ n k (by omega) (by omega)
    have hr : μ'.2.1 = μ.2.1 := congrArg Prod.fst f4
    have m26 : ∀ {k}, k ≠ 6 → k ≠ 21 → ν'.1 26 0 k = ν.1 26 0 k := fun x y => (g3 26 0 _ (by omega) (by omega)).trans (wI_o (by omega))
    have m27 : ∀ {a k}, ν'.1 27 a k = ν.1 27 a k := (g3 27 _ _ (by omega) (by omega)).trans (wI_o (by omega))
    have h8 : ∀ {m : Nat} i, i < 4 → μ'.1 8 (4 * m + i) 0 = μ.1 8 (4 * m + i) 0 := fun i _ => by rw [kw (z := 8) (by decide) (by decide)]
    have hp : ∀ {T : Nat → Int32}, relP μ p T → relP μ' p T := fun q => relP_congr (kw (by decide) (by decide)) (kw (by decide) (by decide)) (kw (by decide) (by decide)) (by rw [hr]) q
    have hm : ∀ {i : Nat} {T : Nat → Int32}, relM μ i p T → relM μ' i p T := fun q => relM_same (same_own fun κ n k hw _ => f3 κ n k (fun z => hw (by rw [z.1]; rfl)) (fun z => hw (by rw [z.1]; rfl))) h8 q
    refine ⟨nI (n + 20), μ', ν', x1, y1, (g3 26 0 6 (by omega) (by omega)).trans wI_same, ⟨⟨r1, by rw [hr]; exact r2, by rw [hr]; exact r3, by rw [hr]; exact r4, by rw [hr]; exact r5, by rw [hr]; exact r6⟩, relP_T (fun k _ => m27) (hp hP), relM_T (fun k _ => m27) (hm hM), ⟨n + 20, hf, f1, g1, fun k hk => ?_⟩, ?_, ⟨u, e', hu, he, ?_, (m26 (by decide) (by decide)).trans u2, ?_, fun k hk => ?_⟩, ?_, ?_, ?_, fun j hj => ?_, fun j hj => ?_⟩, ⟨fun κ n k x y => f3 κ n k (by omega) (by omega), fun κ n k x => by rw [hr]⟩, ⟨fun κ n k x => (g3 κ n k (by omega) (by omega)).trans (wI_o (by omega)), fun κ n k x => by rw [g4]; rfl⟩⟩
    · by_cases hkn : k < n
      · rw [g3 28 7 k (by omega) (by omega), f3 1 0 k (by omega) (by omega)]; exact b3 k hkn
      · have q1 := f2 (k - n) (by omega)
        have q2 := g2 (k - n) (by omega)
        rw [show n + (k - n) = k by omega] at q1 q2
        exact ⟨q2.trans q1.1.symm, q1.2⟩
    · rw [f3 0 0 2 (by omega) (by omega), m26 (by decide) (by decide)]; exact hE
    · rw [f3 0 0 15 (by omega) (by omega)]; exact u1
    · rw [f3 0 0 14 (by omega) (by omega)]; exact e1
    · obtain ⟨q1, q2⟩ := hist k hk
      exact ⟨relP_T (fun k _ => m27) (hp q1), relM_T (fun k _ => m27) (hm q2)⟩
    · exact hS.imp (fun q => ⟨(f3 0 0 12 (by omega) (by omega)).trans q.1, (m26 (by decide) (by decide)).trans q.2⟩) fun q =>
        ⟨(f3 0 0 12 (by omega) (by omega)).trans q.1, (m26 (by decide) (by decide)).trans q.2.1, relP_T (fun k _ => m27) (hp q.2.2.1), relM_T (fun k _ => m27) (hm q.2.2.2)⟩
    · rw [hr]; exact hk3
    · rw [hr]; exact hk9
    · rw [kw (z := 19) (by decide) (by decide)]; exact hq j hj
    · rw [kw (z := 18) (by decide) (by decide)]; exact hz j hj
  · have ln : ¬ nI (n + 20) ≤ (1000 : Int32) := fun z => hf ((nI_leI (b := 1000) (by omega) (by decide)).1 z)
    have h0 : (wI ν 26 0 6 0).1 26 0 21 = nI n := b2
    refine ⟨-1, μ, wI ν 26 0 6 0, ?_, ?_, wI_same, h, kr_nil, kc_26⟩
    · unfold fX12_feed
      rw [b1, show nI n + (20 : Int32) = nI (n + 20) from nI_add n 20, if_neg ln]
    · unfold fX13_feed
      simp only [jn_eq, nm_eq]
      rw [h0, show nI n + (20 : Int32) = nI (n + 20) from nI_add n 20, if_neg ln]
