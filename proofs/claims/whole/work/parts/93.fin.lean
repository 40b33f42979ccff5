/-! the end of a cycle. The model writes what was laid aside -/
theorem grpM_s {b x q : Nat} : grpM b (x + 1) q = (grpM b x q || decide ((b + x) % 16 = q)) := by
  unfold grpM
  rw [List.range_succ, List.any_append]
  simp
theorem grpM_0 {b q : Nat} : grpM b 0 q = false := rfl
theorem m_writeBits {ν : Mem} {b s : Nat} {v : Int32} {z : Bool} {L : Nat → Bool} (hb : b < 16) (hs : s ≤ 16) (hL : ∀ q, q < 16 → tN ν (4 + 6 * q + (if z then 1 else 0)) = b2 (L q)) (fu : Nat) :
    ∃ ν', fX13_writeBits (fu + 17) 0 (nI b) (nI s) v (b2 z) ν = some ((), ν') ∧ ν'.2 = ν.2 ∧ (∀ κ n k, ¬ (κ = 27 ∧ n = 0 ∧ 4 ≤ k ∧ k < 100 ∧ (k - 4) % 6 = (if z then 1 else 0)) → ν'.1 κ n k = ν.1 κ n k) ∧ ∀ q, q < 16 → tN ν' (4 + 6 * q + (if z then 1 else 0)) = b2 (wrB b s v L q) := by
  unfold fX13_writeBits
  simp only [jn_eq, nm_eq]
  have hz : (if z then 1 else 0) < 2 := by cases z <;> decide
  generalize hf : (if z then 1 else 0) = f at hL hz ⊢
  rw [show fu + 17 = (fu + (16 - s)) + (s + 1) by omega]
  refine lp_ind (P := fun r (g : Mem → Int32 → Option (Unit × Mem)) => ∀ (x : Nat) (ν1 : Mem), x + r = s → ν1.2 = ν.2 → (∀ κ n k, ¬ (κ = 27 ∧ n = 0 ∧ 4 ≤ k ∧ k < 100 ∧ (k - 4) % 6 = f) → ν1.1 κ n k = ν.1 κ n k) → (∀ q, q < 16 → tN ν1 (4 + 6 * q + f) = b2 (wrB b x v L q)) →
      ∃ ν', g ν1 (nI x) = some ((), ν') ∧ ν'.2 = ν.2 ∧ (∀ κ n k, ¬ (κ = 27 ∧ n = 0 ∧ 4 ≤ k ∧ k < 100 ∧ (k - 4) % 6 = f) → ν'.1 κ n k = ν.1 κ n k) ∧ ∀ q, q < 16 → tN ν' (4 + 6 * q + f) = b2 (wrB b s v L q))
    (fun g x ν1 hx h2 h1 hl => ?_) (fun r g ih x ν1 hx h2 h1 hl => ?_) s (fu + (16 - s)) 0 ν (by omega) rfl (fun _ _ _ _ => rfl) (fun q hq => (hL q hq).trans rfl)
  · have : x = s := by omega
    subst this
    exact ⟨ν1, if_pos (nI_le (Nat.le_refl _) (by omega)), h2, h1, hl⟩
  · have hm : (b + x) % 16 < 16 := Nat.mod_lt _ (by decide)
    have ep : ∀ w, fX13_putPin 0 (nI ((b + x) % 16)) (nI f) w ν1 = some ((), wI ν1 27 0 (4 + 6 * ((b + x) % 16) + f) w) := fun w => r_putPin (by omega)
    have ew : (v >>> (nI x &&& 31)) &&& 1 = b2 (bt v x) := bit_at (by omega)
    have er : (nI b + nI x) - (nI b + nI x) / (16 : Int32) * (16 : Int32) = nI ((b + x) % 16) := by rw [nI_add, show (16 : Int32) = nI 16 from rfl, remN (by omega) (by decide) (by decide)]
    rw [if_neg (nI_ge (by omega) (by omega)), ckD_ok (by decide), er, ew]
    have fin : ∃ ν', g (wI ν1 27 0 (4 + 6 * ((b + x) % 16) + f) (b2 (bt v x))) (nI (x + 1)) = some ((), ν') ∧ ν'.2 = ν.2 ∧ (∀ κ n k, ¬ (κ = 27 ∧ n = 0 ∧ 4 ≤ k ∧ k < 100 ∧ (k - 4) % 6 = f) → ν'.1 κ n k = ν.1 κ n k) ∧ ∀ q, q < 16 → tN ν' (4 + 6 * q + f) = b2 (wrB b s v L q) := by
      refine ih (x + 1) _ (by omega) h2 (fun κ n k a => ?_) (fun q hq => ?_)
      · rw [wI_o (by omega)]; exact h1 κ n k a
      · rw [tN_wI]
        unfold wrB
        rw [grpM_s]
        by_cases hqx : (b + x) % 16 = q
        · rw [if_pos (by omega), decide_eq_true hqx, Bool.or_true, if_pos rfl, show (q + (16 - b)) % 16 = x by omega]
        · rw [if_neg (by omega), decide_eq_false hqx, Bool.or_false]
          exact hl q hq
    cases z
    · have : f = 0 := hf.symm
      subst this
      have ep0 : ∀ w, fX13_putPin 0 (nI ((b + x) % 16)) 0 w ν1 = _ := ep
      rw [if_pos (show b2 false = 0 from rfl), ep0, bnd_some, nI_1]; exact fin
    · have : f = 1 := hf.symm
      subst this
      have ep1 : ∀ w, fX13_putPin 0 (nI ((b + x) % 16)) 1 w ν1 = _ := ep
      rw [if_neg (show ¬ b2 true = 0 by decide), ep1, bnd_some, nI_1]; exact fin
theorem m_writeAll {ν : Mem} {e : Nat} {L D : Nat → Bool} (he : e < 4) (hw : wok ν e) (hsd : ν.1 28 6 e = -1 ∨ ∃ b s : Nat, b < 16 ∧ s ≤ 16 ∧ tN ν (476 + 21 * e + 9) = nI b ∧ tN ν (476 + 21 * e + 10) = nI s) (hL : ∀ q, q < 16 → tN ν (4 + 6 * q + 0) = b2 (L q)) (hD : ∀ q, q < 16 → tN ν (4 + 6 * q + 1) = b2 (D q)) (fu : Nat) :
    ∃ ν', fX13_writeAll (fu + 17) 0 (nI e) ν = some ((), ν') ∧ ν'.2 = ν.2 ∧ (∀ κ n k, ¬ (κ = 27 ∧ n = 0 ∧ 4 ≤ k ∧ k < 100 ∧ (k - 4) % 6 < 2) → ν'.1 κ n k = ν.1 κ n k) ∧ ∀ q, q < 16 → tN ν' (4 + 6 * q + 0) = b2 (apF ν e L D q).1 ∧ tN ν' (4 + 6 * q + 1) = b2 (apF ν e L D q).2 := by
  unfold fX13_writeAll
  simp only [jn_eq]
  have k2 : ∀ {α : Type} (o : Option α), ckI (nI e) (mil.getD 2 0) o = o := fun o => ckI_nI (by exact he) (by decide)
  have k3 : ∀ {α : Type} (o : Option α), ckI (nI e) (mil.getD 3 0) o = o := fun o => ckI_nI (by exact he) (by decide)
  have k4 : ∀ {α : Type} (o : Option α), ckI (nI e) (mil.getD 4 0) o = o := fun o => ckI_nI (by exact he) (by decide)
  have k5 : ∀ {α : Type} (o : Option α), ckI (nI e) (mil.getD 5 0) o = o := fun o => ckI_nI (by exact he) (by decide)
  have k6 : ∀ {α : Type} (o : Option α), ckI (nI e) (mil.getD 6 0) o = o := fun o => ckI_nI (by exact he) (by decide)
  simp only [k2, k3, k4, k5, k6, nI_clamp (show e < 2 ^ 31 by omega)]
  -- the side outputs, over what the instruction has written
  have side : ∀ (ν1 : Mem) (L1 D1 : Nat → Bool), ν1.2 = ν.2 → (∀ κ n k, ¬ (κ = 27 ∧ n = 0 ∧ 4 ≤ k ∧ k < 100 ∧ (k - 4) % 6 < 2) → ν1.1 κ n k = ν.1 κ n k) → (∀ q, q < 16 → tN ν1 (4 + 6 * q + 0) = b2 (L1 q) ∧ tN ν1 (4 + 6 * q + 1) = b2 (D1 q)) → (∀ q, q < 16 → apW ν e L D q = (L1 q, D1 q)) →
      ∃ ν', (if (ν1.1 28 6 e) = (-1 : Int32) then some ((), ν1) else bnd (fX13_setting 0 (nI e) (9 : Int32) ν1) fun x5 μ4 => bnd (fX13_setting 0 (nI e) (10 : Int32) μ4) fun x7 μ6 => bnd (fX13_writeBits (fu + 17) 0 x5 x7 (μ6.1 28 6 e) (0 : Int32) μ6) fun _ μ8 => some ((), μ8)) = some ((), ν') ∧ ν'.2 = ν.2 ∧
        (∀ κ n k, ¬ (κ = 27 ∧ n = 0 ∧ 4 ≤ k ∧ k < 100 ∧ (k - 4) % 6 < 2) → ν'.1 κ n k = ν.1 κ n k) ∧ ∀ q, q < 16 → tN ν' (4 + 6 * q + 0) = b2 (apF ν e L D q).1 ∧ tN ν' (4 + 6 * q + 1) = b2 (apF ν e L D q).2 := by
    intro ν1 L1 D1 h2 h1 hp ha
    have e6 : ν1.1 28 6 e = ν.1 28 6 e := h1 28 6 e (by omega)
    rw [e6]
    by_cases h6 : ν.1 28 6 e = -1
    · refine ⟨ν1, if_pos h6, h2, h1, fun q hq => ?_⟩
      unfold apF
      rw [if_pos h6, ha q hq]; exact hp q hq
    · obtain ⟨b, s, hb, hs, s9, s10⟩ := hsd.resolve_left h6
      have es9 : fX13_setting 0 (nI e) 9 ν1 = some (nI b, ν1) := by
        have : fX13_setting 0 (nI e) 9 ν1 = _ := r_setting (f := 9) (by omega)
        rw [this, show tN ν1 (476 + 21 * e + 9) = nI b from (h1 27 0 _ (by omega)).trans s9]
      have es10 : fX13_setting 0 (nI e) 10 ν1 = some (nI s, ν1) := by
        have : fX13_setting 0 (nI e) 10 ν1 = _ := r_setting (f := 10) (by omega)
        rw [this, show tN ν1 (476 + 21 * e + 10) = nI s from (h1 27 0 _ (by omega)).trans s10]
      obtain ⟨ν2, w1, w2, w3, w4⟩ := m_writeBits (ν := ν1) (v := ν.1 28 6 e) (z := false) (L := L1) hb hs (fun q hq => (hp q hq).1) fu
      have w1 : fX13_writeBits (fu + 17) 0 (nI b) (nI s) (ν.1 28 6 e) 0 ν1 = some ((), ν2) := w1
      have w3 : ∀ κ n k, ¬ (κ = 27 ∧ n = 0 ∧ 4 ≤ k ∧ k < 100 ∧ (k - 4) % 6 = 0) → ν2.1 κ n k = ν1.1 κ n k := w3
      rw [if_neg h6, es9, bnd_some, es10, bnd_some, e6, w1, bnd_some]
      refine ⟨ν2, rfl, w2.trans h2, fun κ n k q => (w3 κ n k (by omega)).trans (h1 κ n k q), fun q hq => ?_⟩
      unfold apF
      rw [if_neg h6, ha q hq, s9, s10, nI_clamp (by omega), nI_clamp (by omega)]
      refine ⟨(w4 q hq).trans ?_, (w3 27 0 _ (by omega)).trans (hp q hq).2⟩
      unfold wrB
      simp only [ha q hq]
  rcases hw with h2 | ⟨h2, b, s, hb, hs, h3, h4⟩
  · rw [if_pos h2]
    exact side ν L D rfl (fun _ _ _ _ => rfl) (fun q hq => ⟨hL q hq, hD q hq⟩) (fun q hq => by unfold apW; rw [if_pos h2])
  · have n1 : ¬ ν.1 28 2 e = -1 := by rcases h2 with h | h <;> rw [h] <;> decide
    rw [if_neg n1, h3, h4]
    rcases h2 with h | h
    · obtain ⟨ν2, w1, w2, w3, w4⟩ := m_writeBits (ν := ν) (v := ν.1 28 5 e) (z := false) (L := L) hb hs hL fu
      have w1 : fX13_writeBits (fu + 17) 0 (nI b) (nI s) (ν.1 28 5 e) 0 ν = some ((), ν2) := w1
      have w3 : ∀ κ n k, ¬ (κ = 27 ∧ n = 0 ∧ 4 ≤ k ∧ k < 100 ∧ (k - 4) % 6 = 0) → ν2.1 κ n k = ν.1 κ n k := w3
      rw [if_pos (show ¬ ν.1 28 2 e = 7 by rw [h]; decide), w1, bnd_some]
      refine side ν2 (wrB b s (ν.1 28 5 e) L) D w2 (fun κ n k q => w3 κ n k (by omega)) (fun q hq => ⟨w4 q hq, (w3 27 0 _ (by omega)).trans (hD q hq)⟩) (fun q hq => ?_)
      unfold apW
      rw [if_neg n1, if_neg (by rw [h]; decide), h3, h4, nI_clamp (by omega), nI_clamp (by omega)]
    · obtain ⟨ν2, w1, w2, w3, w4⟩ := m_writeBits (ν := ν) (v := ν.1 28 5 e) (z := true) (L := D) hb hs hD fu
      have w1 : fX13_writeBits (fu + 17) 0 (nI b) (nI s) (ν.1 28 5 e) 1 ν = some ((), ν2) := w1
      have w3 : ∀ κ n k, ¬ (κ = 27 ∧ n = 0 ∧ 4 ≤ k ∧ k < 100 ∧ (k - 4) % 6 = 1) → ν2.1 κ n k = ν.1 κ n k := w3
      rw [if_neg (show ¬ ¬ ν.1 28 2 e = 7 from fun q => q h), w1, bnd_some]
      refine side ν2 L (wrB b s (ν.1 28 5 e) D) w2 (fun κ n k q => w3 κ n k (by omega)) (fun q hq => ⟨(w3 27 0 _ (by omega)).trans (hL q hq), w4 q hq⟩) (fun q hq => ?_)
      unfold apW
      rw [if_neg n1, if_pos h, h3, h4, nI_clamp (by omega), nI_clamp (by omega)]
/-- the model's levels recorded -/
theorem m_record_levels {ν : Mem} {L D O Bf : Nat → Bool} {c : Nat} (hc : c ≤ 2000000) (h1c : tN ν 1 = nI c) (hp : ∀ q, q < 16 → tN ν (4 + 6 * q + 0) = b2 (L q) ∧ tN ν (4 + 6 * q + 1) = b2 (D q) ∧ tN ν (4 + 6 * q + 2) = b2 (O q) ∧ tN ν (4 + 6 * q + 3) = b2 (Bf q)) (fu : Nat) :
    ∃ ν' m, fX13_recordLevels (fu + 17) 0 ν = some ((), wI ν' 27 0 (220 + c % 64) m) ∧ ν'.2 = ν.2 ∧ (∀ κ n k, ¬ (κ = 27 ∧ n = 0 ∧ 4 ≤ k ∧ k < 100 ∧ 3 ≤ (k - 4) % 6) → ν'.1 κ n k = ν.1 κ n k) ∧
      (∀ q, q < 16 → tN ν' (4 + 6 * q + 3) = b2 (if D q then L q else O q) ∧ tN ν' (4 + 6 * q + 4) = tN ν (4 + 6 * q + 4) + (if (if D q then L q else O q) = Bf q then 0 else 1) ∧ tN ν' (4 + 6 * q + 5) = tN ν (4 + 6 * q + 5) + b2 (if D q then L q else O q)) ∧
      ∀ q, q < 32 → bt m q = (decide (q < 16) && (if D q then L q else O q)) := by
  unfold fX13_recordLevels
  simp only [jn_eq, nm_eq]
  refine lp_ind (P := fun r (g : Mem → Int32 → Int32 → Option (Unit × Mem)) => ∀ (x : Nat) (acc : Int32) (ν1 : Mem), x + r = 16 → ν1.2 = ν.2 → (∀ κ n k, ¬ (κ = 27 ∧ n = 0 ∧ 4 ≤ k ∧ k < 4 + 6 * x ∧ 3 ≤ (k - 4) % 6) → ν1.1 κ n k = ν.1 κ n k) →
      (∀ q, q < x → tN ν1 (4 + 6 * q + 3) = b2 (if D q then L q else O q) ∧ tN ν1 (4 + 6 * q + 4) = tN ν (4 + 6 * q + 4) + (if (if D q then L q else O q) = Bf q then 0 else 1) ∧ tN ν1 (4 + 6 * q + 5) = tN ν (4 + 6 * q + 5) + b2 (if D q then L q else O q)) → (∀ q, q < 32 → bt acc q = (decide (q < x) && (if D q then L q else O q))) →
      ∃ ν' m, g ν1 acc (nI x) = some ((), wI ν' 27 0 (220 + c % 64) m) ∧ ν'.2 = ν.2 ∧ (∀ κ n k, ¬ (κ = 27 ∧ n = 0 ∧ 4 ≤ k ∧ k < 100 ∧ 3 ≤ (k - 4) % 6) → ν'.1 κ n k = ν.1 κ n k) ∧
      (∀ q, q < 16 → tN ν' (4 + 6 * q + 3) = b2 (if D q then L q else O q) ∧ tN ν' (4 + 6 * q + 4) = tN ν (4 + 6 * q + 4) + (if (if D q then L q else O q) = Bf q then 0 else 1) ∧ tN ν' (4 + 6 * q + 5) = tN ν (4 + 6 * q + 5) + b2 (if D q then L q else O q)) ∧
      ∀ q, q < 32 → bt m q = (decide (q < 16) && (if D q then L q else O q)))
    (fun g x acc ν1 hx h2 h1 hl hm => ?_) (fun r g ih x acc ν1 hx h2 h1 hl hm => ?_) 16 fu 0 0 ν rfl rfl (fun _ _ _ _ => rfl) (fun q hq => absurd hq (by omega)) (fun q hq => by rw [bt_0]; simp)
  · have : x = 16 := by omega
    subst this
    have v1 : ν1.1 27 0 (1 : Int32).toNatClampNeg = nI c := (h1 27 0 1 (by omega)).trans h1c
    have hm64 : c % 64 < 64 := Nat.mod_lt _ (by decide)
    refine ⟨ν1, acc, ?_, h2, fun κ n k q => h1 κ n k (by omega), hl, hm⟩
    rw [if_pos (by decide), ckI_at (i := 1) (by decide), v1, show (64 : Int32) = nI 64 from rfl, ckD_ok (by decide), remN (by omega) (by decide) (by decide), show (220 : Int32) + nI (c % 64) = nI (220 + c % 64) from nI_add 220 _, ckI_nI (r700 (by omega)) (by decide), nI_clamp (by omega)]
  · have hx16 : x < 16 := by omega
    obtain ⟨p0, p1, p2, p3⟩ := hp x hx16
    have w : ∀ f, f < 6 → tN ν1 (4 + 6 * x + f) = tN ν (4 + 6 * x + f) := fun f hf => h1 27 0 _ (by omega)
    have o : ∀ (f : Nat) (ν2 : Mem), f < 6 → fX13_ofPin 0 (nI x) (nI f) ν2 = some (tN ν2 (4 + 6 * x + f), ν2) := fun f ν2 hf => r_ofPin (by omega)
    have u : ∀ (f : Nat) (v : Int32) (ν2 : Mem), f < 6 → fX13_putPin 0 (nI x) (nI f) v ν2 = some ((), wI ν2 27 0 (4 + 6 * x + f) v) := fun f v ν2 hf => r_putPin (by omega)
    have o4 : ∀ ν2, fX13_ofPin 0 (nI x) 4 ν2 = _ := fun ν2 => o 4 ν2 (by decide)
    have o3 : ∀ ν2, fX13_ofPin 0 (nI x) 3 ν2 = _ := fun ν2 => o 3 ν2 (by decide)
    have o5 : ∀ ν2, fX13_ofPin 0 (nI x) 5 ν2 = _ := fun ν2 => o 5 ν2 (by decide)
    have u4 : ∀ v ν2, fX13_putPin 0 (nI x) 4 v ν2 = _ := fun v ν2 => u 4 v ν2 (by decide)
    have u5 : ∀ v ν2, fX13_putPin 0 (nI x) 5 v ν2 = _ := fun v ν2 => u 5 v ν2 (by decide)
    have u3 : ∀ v ν2, fX13_putPin 0 (nI x) 3 v ν2 = _ := fun v ν2 => u 3 v ν2 (by decide)
    rw [if_neg (show ¬ (16 : Int32) ≤ nI x from nI_ge (b := 16) hx16 (by decide)), m_levelOf hx16 ((w 1 (by decide)).trans p1) ((w 0 (by decide)).trans p0) ((w 2 (by decide)).trans p2), bnd_some, o4, bnd_some, o3, bnd_some, w 3 (by decide), p3, w 4 (by decide), nI_1]
    generalize hlv : (if D x then L x else O x) = lv
    have go : ∀ ad : Int32, ad = (if lv = Bf x then 0 else 1) → ∃ ν' m, (bnd (fX13_putPin 0 (nI x) 4 (tN ν (4 + 6 * x + 4) + ad) ν1) fun _ μ16 => bnd (fX13_ofPin 0 (nI x) 5 μ16) fun x18 μ17 => bnd (fX13_putPin 0 (nI x) 5 (x18 + b2 lv) μ17) fun _ μ19 => bnd (fX13_putPin 0 (nI x) 3 (b2 lv) μ19) fun _ μ20 => g μ20 (acc ||| (b2 lv <<< (nI x &&& 31))) (nI (x + 1))) = some ((), wI ν' 27 0 (220 + c % 64) m) ∧ ν'.2 = ν.2 ∧ (∀ κ n k, ¬ (κ = 27 ∧ n = 0 ∧ 4 ≤ k ∧ k < 100 ∧ 3 ≤ (k - 4) % 6) → ν'.1 κ n k = ν.1 κ n k) ∧
      (∀ q, q < 16 → tN ν' (4 + 6 * q + 3) = b2 (if D q then L q else O q) ∧ tN ν' (4 + 6 * q + 4) = tN ν (4 + 6 * q + 4) + (if (if D q then L q else O q) = Bf q then 0 else 1) ∧ tN ν' (4 + 6 * q + 5) = tN ν (4 + 6 * q + 5) + b2 (if D q then L q else O q)) ∧
      ∀ q, q < 32 → bt m q = (decide (q < 16) && (if D q then L q else O q)) := fun ad had => by
      rw [u4, bnd_some, o5, bnd_some, u5, bnd_some, u3, bnd_some, tN_o (by omega), w 5 (by decide)]
      refine ih (x + 1) _ _ (by omega) h2 (fun κ n k a => ?_) (fun q hq => ?_) (fun q hq => ?_)
      · rw [wI_o (by omega), wI_o (by omega), wI_o (by omega)]; exact h1 κ n k (by omega)
      · by_cases hqx : q = x
        · subst hqx
          rw [hlv]
          refine ⟨wI_same, ?_, ?_⟩
          · rw [tN_o (by omega), tN_o (by omega), ← had]; exact wI_same
          · rw [tN_o (by omega)]; exact wI_same
        · obtain ⟨a1, a2, a3⟩ := hl q (by omega)
          refine ⟨?_, ?_, ?_⟩
          · rw [tN_o (by omega), tN_o (by omega), tN_o (by omega)]; exact a1
          · rw [tN_o (by omega), tN_o (by omega), tN_o (by omega)]; exact a2
          · rw [tN_o (by omega), tN_o (by omega), tN_o (by omega)]; exact a3
      · rw [bt_or, hm q hq, b2_shl (by omega) hq]
        by_cases hqx : q = x
        · subst hqx
          rw [hlv, decide_eq_false (show ¬ q < q by omega), decide_eq_true (show q < q + 1 by omega), decide_eq_true rfl]; simp
        · rw [decide_eq_false hqx]
          by_cases h3 : q < x
          · rw [decide_eq_true h3, decide_eq_true (by omega)]; simp
          · rw [decide_eq_false h3, decide_eq_false (by omega)]; simp
    by_cases hb : lv = Bf x
    · rw [if_pos (show b2 lv = b2 (Bf x) by rw [hb])]; exact go 0 (by rw [if_pos hb])
    · rw [if_neg (fun q => hb (b2_inj q))]; exact go 1 (by rw [if_neg hb])
