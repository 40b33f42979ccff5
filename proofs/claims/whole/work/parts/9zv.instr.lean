/-! PARSING: an instruction: the class after an error; the class's row; side and delay -/
theorem syO_ok : ∀ a, a < 74 → ¬ (syO.getD a 0 < 0 ∨ 74 ≤ (syO.getD a 0).toNatClampNeg) := by decide +kernel
theorem dd_r {N n j k v : Nat} {c : Nat → Int32} {μ : Mem} (d : DD N n c μ) : DD N n c (wR μ 9 j k v) := dd_c d (fun _ _ _ _ => rfl) (funext fun q => wR_o (by omega))
theorem dd_w {N n j k : Nat} {v : Int32} {c : Nat → Int32} {μ : Mem} (d : DD N n c μ) : DD N n c (wI μ 9 j k v) := dd_c d (fun κ a q z => wI_o (by omega)) rfl
theorem d_place {N n j : Nat} {c : Nat → Int32} {μ : Mem} (d : DD N n c μ) : fX5_readPlace 0 j μ = some ((), wI (wR μ 9 j 4 0) 9 j 5 0) := c_cellN (d_takeOpt d) (d_number (dd_r d))
theorem d_ways {N n j w : Nat} {c : Nat → Int32} {μ : Mem} (d : DD N n c μ) : fX5_readWays 0 j w μ = some ((), μ) := by
  rw [c_ways, d_skip d, bnd_some, if_pos (show (0 : Int32) = 0 from rfl), bnd_some, d_skip d, bnd_some, if_pos (show (0 : Int32) = 0 from rfl)]
theorem d_ops {N n fu j a : Nat} {c : Nat → Int32} {μ : Mem} (d : DD N n c μ) (h : μ.2.1 9 j 0 = a) (ha : a < 74) : ∃ μ', fX5_readOperands fu 0 j μ = some ((), μ') ∧ FcI j μ μ' ∧ KT μ μ' := by
  have r0 : ∀ k, FcI j μ (wR μ 9 j k 0) := fun k => fci_r (by decide)
  unfold fX5_readOperands
  simp only [jn_eq]
  rw [nm_eq, h, ckB_ok ha, sw_at ⟨syO_ok a ha, rfl⟩]
  simp only [nm_eq, c_takePin, c_takeFlag, bnd_u, wR_same]
  generalize smL.getD (syO.getD a 0).toNatClampNeg 0 = v
  by_cases h1 : v = 1
  · rw [if_pos h1, d_takeOpt d, bnd_some, ckB_ok (by decide), d_name (dd_r d), bnd_some]
    exact ⟨_, rfl, fci_trans (fci_r (by decide)) fci_w, kt_trans kt_r kt_9⟩
  · rw [if_neg h1]
    by_cases h2 : v = 2
    · rw [if_pos h2, d_number d, bnd_some, d_takeRole (dd_w d), bnd_some, ckB_ok (by decide), ckB_ok (by decide), if_pos (by decide), d_number (dd_r (dd_w d)), bnd_some]
      exact ⟨_, rfl, fci_trans fci_w (fci_trans (fci_r (by decide)) fci_w), kt_trans kt_9 (kt_trans kt_r kt_9)⟩
    · rw [if_neg h2]
      by_cases h3 : v = 3
      · rw [if_pos h3, d_takeRole d, bnd_some, ckB_ok (by decide), d_number (dd_r d), bnd_some]
        exact ⟨_, rfl, fci_trans (fci_r (by decide)) fci_w, kt_trans kt_r kt_9⟩
      · rw [if_neg h3]
        by_cases h4 : v = 4
        · rw [if_pos h4, d_takeRole d, bnd_some, ckB_ok (by decide), d_number (dd_r d), bnd_some]
          exact ⟨_, rfl, fci_trans (fci_r (by decide)) fci_w, kt_trans kt_r kt_9⟩
        · rw [if_neg h4]
          by_cases h5 : v = 5
          · rw [if_pos h5, d_ways d]
            exact ⟨_, rfl, fci_rfl, kt_rfl⟩
          · rw [if_neg h5]
            by_cases h6 : v = 6
            · rw [if_pos h6, d_ways d]
              exact ⟨_, rfl, fci_rfl, kt_rfl⟩
            · rw [if_neg h6]
              by_cases h7 : v = 7
              · rw [if_pos h7, d_takeRole d, bnd_some, ckB_ok (by decide), d_takeOpt (dd_r d), bnd_some, ckB_ok (by decide), d_takeRole (dd_r (dd_r d)), bnd_some, ckB_ok (by decide)]
                exact ⟨_, rfl, fci_trans (fci_r (by decide)) (fci_trans (fci_r (by decide)) (fci_r (by decide))), kt_trans kt_r (kt_trans kt_r kt_r)⟩
              · rw [if_neg h7]
                by_cases h8 : v = 11
                · rw [if_pos h8, d_takeRole d, bnd_some, ckB_ok (by decide), d_number (dd_r d), bnd_some]
                  exact ⟨_, rfl, fci_trans (fci_r (by decide)) fci_w, kt_trans kt_r kt_9⟩
                · rw [if_neg h8]
                  by_cases h9 : v = 40
                  · rw [if_pos h9, d_takeRole d, bnd_some, ckB_ok (by decide), d_place (dd_r d)]
                    exact ⟨_, rfl, fci_trans (fci_r (by decide)) (fci_trans (fci_r (by decide)) fci_w), kt_trans kt_r (kt_trans kt_r kt_9)⟩
                  · rw [if_neg h9]
                    by_cases h10 : v = 41
                    · rw [if_pos h10, d_takeRole d, bnd_some, ckB_ok (by decide), d_place (dd_r d)]
                      exact ⟨_, rfl, fci_trans (fci_r (by decide)) (fci_trans (fci_r (by decide)) fci_w), kt_trans kt_r (kt_trans kt_r kt_9)⟩
                    · rw [if_neg h10, d_number d, bnd_some]
                      exact ⟨_, rfl, fci_w, kt_9⟩
/-- a row cleared for an operation -/
def clr (μ : Mem) (j a : Nat) : Mem := wI (wI (wI (wR (wR (wR (wI (wR μ 9 j 0 a) 9 j 1 (-1)) 9 j 2 0) 9 j 3 0) 9 j 4 0) 9 j 5 (-1)) 9 j 6 (-1)) 9 j 7 0
theorem c_clr {μ : Mem} {j a : Nat} : fX2_clearTo j a μ = some ((), clr μ j a) := rfl
theorem fci_clr {μ : Mem} {j a : Nat} (ha : a < 74) : FcI j μ (clr μ j a) :=
  fci_trans (fci_r ha) (fci_trans fci_w (fci_trans (fci_r (by decide)) (fci_trans (fci_r (by decide)) (fci_trans (fci_r (by decide)) (fci_trans fci_w (fci_trans fci_w fci_w))))))
theorem kt_clr {μ : Mem} {j a : Nat} : KT μ (clr μ j a) := kt_trans kt_r (kt_trans kt_9 (kt_trans kt_r (kt_trans kt_r (kt_trans kt_r (kt_trans kt_9 (kt_trans kt_9 kt_9))))))
theorem c_addY {s a cnt : Nat} {μ : Mem} (h5 : μ.1 5 s 0 = nI cnt) (hc : cnt < 32) : fX4_add s a μ = some (33 * s + cnt, wI (clr μ (33 * s + cnt) a) 5 s 0 (nI (cnt + 1))) := by
  have e5 : (clr μ (33 * s + cnt) a).1 5 s 0 = nI cnt := ((fci_clr (a := 0) (j := 33 * s + cnt) (μ := μ) (by decide)).1 5 s 0 (by omega) (by omega)).trans h5
  unfold fX4_add fX4_isFull
  simp only [jn_eq, nm_eq]
  rw [h5, if_pos (show nI cnt < (32 : Int32) from (nI_ltI (b := 32) (by omega) (by decide)).2 hc), ckZ_ok (Or.inl rfl), bnd_some, if_pos (show (0 : Int32) = 0 from rfl), h5, ckI_nI hc (by decide), nI_clamp (n := cnt) (by omega), c_clr, bnd_some, e5, nI_1]
theorem c_addN {s a cnt : Nat} {μ : Mem} (h5 : μ.1 5 s 0 = nI cnt) (hc : ¬ cnt < 32) (hc' : cnt ≤ 32) : fX4_add s a μ = some (33 * s + 32, μ) := by
  unfold fX4_add fX4_isFull
  simp only [jn_eq, nm_eq]
  rw [h5, if_neg (show ¬ nI cnt < (32 : Int32) from fun z => hc ((nI_ltI (b := 32) (by omega) (by decide)).1 z)), ckZ_ok (Or.inr rfl), bnd_some, if_neg (show ¬ (1 : Int32) = 0 by decide)]
theorem c_full {s cnt : Nat} {μ : Mem} (h5 : μ.1 5 s 0 = nI cnt) (hc' : cnt ≤ 32) : fX4_isFull s μ = some (if cnt < 32 then 0 else 1, μ) := by
  unfold fX4_isFull
  simp only [jn_eq]
  rw [h5]
  by_cases g : cnt < 32
  · rw [if_pos (show nI cnt < (32 : Int32) from (nI_ltI (b := 32) (by omega) (by decide)).2 g), if_pos g, ckZ_ok (Or.inl rfl)]
  · rw [if_neg (show ¬ nI cnt < (32 : Int32) from fun z => g ((nI_ltI (b := 32) (by omega) (by decide)).1 z)), if_neg g, ckZ_ok (Or.inr rfl)]
def cT2 (j : Nat) (μ2 : Mem) : Option (Unit × Mem) := bnd (fX11_skip 0 16 μ2) fun x7 μ6 => if x7 = 0 then some ((), μ6) else bnd (fX11_takeNumber 0 0 31 μ6) fun x10 μ9 => some ((), wI μ9 9 j 7 x10)
def cTail (j : Nat) (μ20 : Mem) : Option (Unit × Mem) := bnd (fX11_skip 0 15 μ20) fun x22 μ21 => if x22 = 0 then cT2 j μ21 else bnd (fX11_takeNumber 0 0 15 μ21) fun x25 μ24 => cT2 j (wI μ24 9 j 6 x25)
def cI1 (F s : Nat) (μ1 : Mem) : Option (Unit × Mem) := bnd (fX11_takeRole 0 1 μ1) fun a15 μ14 => ckB a15 74 <| bnd (fX4_add s a15 μ14) fun a18 μ17 => ckB a18 66 <| bnd (fX5_readOperands F 0 a18 μ17) fun _ μ20 => cTail a18 μ20
theorem d_tail {N n j : Nat} {c : Nat → Int32} {μ : Mem} (d : DD N n c μ) : cTail j μ = some ((), μ) := by
  unfold cTail cT2
  rw [d_skip d, bnd_some, if_pos (show (0 : Int32) = 0 from rfl), d_skip d, bnd_some, if_pos (show (0 : Int32) = 0 from rfl)]
theorem fcp_i {s j : Nat} {μ μ' : Mem} (hj : 33 * s ≤ j ∧ j < 33 * s + 33) (h : FcI j μ μ') : FcP s μ μ' :=
  ⟨fun κ a q z1 z2 z3 z4 z5 z6 => h.1 κ a q z1 (by omega), fun κ a q z => h.2.1 κ a q (by omega), h.2.2.1, h.2.2.2, fun ⟨x, h1, h2⟩ => ⟨x, h1, (h.1 5 s 0 (by omega) (by omega)).trans h2⟩⟩
theorem fmp_i {cnt : Nat} {ν ν' : Mem} (h : FmI cnt ν ν') : FmP ν ν' := ⟨fun κ a q z1 z2 z3 => h.1 κ a q z1 (by omega) (by omega), h.2⟩
theorem fcp_50 {s k : Nat} {μ : Mem} (hk : k ≤ 32) : FcP s μ (wI μ 5 s 0 (nI k)) := ⟨fun κ a q _ z _ _ _ _ => wI_o (by omega), fun _ _ _ _ => rfl, rfl, id, fun _ => ⟨k, hk, wI_same⟩⟩
theorem d_ins {N n s F : Nat} {c : Nat → Int32} {μ : Mem} (hs : s < 2) (d : DD N n c μ) (hS : SY μ) (hC : CN s μ) : ∃ μ', cI1 F s μ = some ((), μ') ∧ FcP s μ μ' ∧ KT μ μ' := by
  obtain ⟨cnt, c1, c2⟩ := hC
  unfold cI1
  rw [d_takeRole d, bnd_some, ckB_ok (by decide)]
  by_cases g : cnt < 32
  · have kt1 : KT μ (wI (clr μ (33 * s + cnt) 0) 5 s 0 (nI (cnt + 1))) := kt_trans kt_clr ⟨fun κ a q z => wI_o (by omega), rfl⟩
    have d1 : DD N n c (wI (clr μ (33 * s + cnt) 0) 5 s 0 (nI (cnt + 1))) := dd_c d kt1.1 kt1.2
    have sy : SY (wI (clr μ (33 * s + cnt) 0) 5 s 0 (nI (cnt + 1))) := (fci_clr (j := 33 * s + cnt) (a := 0) (by decide)).2.2.2 hS
    obtain ⟨μ2, e1, e2, e3⟩ := d_ops (fu := F) (j := 33 * s + cnt) d1 rfl (sy (33 * s + cnt) (by omega)).1
    rw [c_addY c2 g, bnd_some, ckB_ok (by omega), e1, bnd_some, d_tail (dd_c d1 e3.1 e3.2)]
    exact ⟨μ2, rfl, fcp_trans (fcp_i (by omega) (fci_clr (by decide))) (fcp_trans (fcp_50 (by omega)) (fcp_i (by omega) e2)), kt_trans kt1 e3⟩
  · obtain ⟨μ2, e1, e2, e3⟩ := d_ops (fu := F) (j := 33 * s + 32) d rfl (hS (33 * s + 32) (by omega)).1
    rw [c_addN c2 g c1, bnd_some, ckB_ok (by omega), e1, bnd_some, d_tail (dd_c d e3.1 e3.2)]
    exact ⟨μ2, rfl, fcp_i (by omega) e2, e3⟩
/-- side, delay: a word and a number, or nothing -/
def spO (hi g f : Nat) (R : RR) : RR := fun B P m r => R B P m r ∨ spN 0 hi g f R B P m r
theorem op_opt {N n i0 j cnt t w ii hi g f : Nat} {c : Nat → Int32} {T0 : Md → Nat → Int32} {R : RR} {M0 M1 : Md} {μ ν : Mem} (h : PG N n c t μ ν) (hI : IO N n c i0 j cnt 0 T0 R M0 t μ ν) (hc : cnt < 32) (hg : g < 6) (hn : i0 ≤ cnt ∨ g ≠ 2) (hw : w < 74 ∧ syT.getD w 0 = ii ∧ 0 < txN.getD ii 0 ∧ tkL (txC ii 0) = true) (hh : hi < 100000) (fu : Nat) :
    J2 N n c M0 M1 (fun μ => bnd (fX11_skip 0 w μ) fun x μ1 => if x = 0 then some ((), μ1) else bnd (fX11_takeNumber 0 0 (nI hi) μ1) fun y μ2 => some ((), wI μ2 9 j f y)) (bnd (fX13_accept (fu + 1001) 0 ii ν) fun x ν1 => if x = 0 then some ((), ν1) else fX13_putNumber (fu + 1001) 0 (nI (284 + 6 * cnt + g)) 0 (nI hi) ν1) t μ ν (IO N n c i0 j cnt 0 T0 R) (fun M t' _ μ' ν' => IO N n c i0 j cnt 0 T0 (spO hi g f R) M t' μ' ν') (FcI j) (FmI cnt) () := by
  have hn' : n ≤ 1000 := Nat.le_trans h.1.1 h.1.2.1
  by_cases q : syA N n c t = w
  · obtain ⟨-, ν1, ya, ys, tn, g1, fp⟩ := yes_acc h w ii hw q fu
    have gq : t < n ∧ syA N n c t = w := ⟨tn, q⟩
    rw [ya, bnd_some, if_neg (show ¬ (1 : Int32) = 0 by decide)]
    have mv : ∀ M μx, IO N n c i0 j cnt 0 T0 R M t μx ν → IO N n c i0 j cnt 0 T0 R M (t + 1) (wI μx 2 0 6 (nI (t + 1))) ν1 := by
      intro M μx ⟨h1, m, h2, h3, h4, h5⟩
      have same : ∀ κ a, ¬ (κ = 26 ∧ a = 0) → ν1.1 κ a = ν.1 κ a := fun κ a z => funext fun k => fp.1 κ a k (by omega)
      have tt : TT M.1 ν1 = TT M.1 ν := tt_congr (same _ _ (by omega)) (same _ _ (by omega)) (same _ _ (by omega)) (fp.1 _ _ _ (by omega))
      refine ⟨lc_c h1 (fun κ a q z => wI_o (by omega)), m, ?_, nm_congr h3 (fun e he hx => by rw [same 27 1 (by omega)]; exact hx) (fun a _ _ => same _ _ (by omega)) (fp.1 _ _ _ (by omega)), by rw [tt]; exact h4, ?_⟩
      · have := tk_lt h.1 tn; omega
      · rw [tt, show (wI μx 2 0 6 (nI (t + 1))).1 9 j = μx.1 9 j from funext fun k => wI_o (by omega)]; exact h5
    refine j2_word (F' := fun μ1 => bnd (fX11_takeNumber 0 0 (nI hi) μ1) fun y μ2 => some ((), wI μ2 9 j f y)) (I1 := IO N n c i0 j cnt 0 T0 R) (fun _ _ _ => fci_trans) (fun _ _ _ => fmi_trans) (fun μx gx => ?_) h g1 mv (fun μx => fci_p fpc_6) (fmi_p fp) (fn_p fp) ?_
    · show bnd _ _ = _
      rw [c_skip hn' gx.2.1 (by omega) gx.2.2.1, if_pos gq, if_pos gq, bnd_some, if_neg (show ¬ (1 : Int32) = 0 by decide)]
    · exact j2_pp (fun _ _ w => w) (fun M t' b μ' ν' _ w => io_mono w (Nat.le_refl _) (Nat.le_refl _) (fun _ _ _ _ z => Or.inr z)) (op_num (lo := 0) (hi := hi) (g := g) (f := f) g1 (mv _ _ hI) hc hg hn hh (Nat.zero_le _) fu)
  · have na := (no_acc h w ii hw q fu).1
    have gq : ¬ (t < n ∧ syA N n c t = w) := fun z => q z.2
    rw [na, bnd_some, if_pos (show (0 : Int32) = 0 from rfl)]
    refine j2_of (fun M μ _ g i => ⟨(), μ, ν, ?_, rfl, fci_rfl, fmi_rfl, fn_rfl, Or.inr ⟨t, Nat.le_refl t, g, io_mono i (Nat.le_refl _) (Nat.le_refl _) (fun _ _ _ _ z => Or.inl z)⟩⟩) h hI
    show bnd _ _ = _
    rw [c_skip hn' g.2.1 g.2.2.2.2.2.1.2.1 g.2.2.1, if_neg gq, if_neg gq, bnd_some, if_pos (show (0 : Int32) = 0 from rfl)]
