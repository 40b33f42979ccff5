/-! QUERY: properties, codes, their values -/
theorem sw4_all : ∀ k, k < 12 → swOk 4 k = true := by decide +kernel
theorem sw4_ok (k : Nat) (hk : k < 12) : swL 4 k < 74 ∧ syT.getD (swL 4 k) 0 = strAt 4 k ∧ 0 < txN.getD (syT.getD (swL 4 k) 0) 0 ∧ tkL (txC (syT.getD (swL 4 k) 0) 0) = true := by
  have a := sw4_all k hk
  unfold swOk at a
  rw [Bool.and_eq_true, Bool.and_eq_true, Bool.and_eq_true] at a
  exact ⟨of_decide_eq_true a.1.1.1, of_decide_eq_true a.1.1.2, of_decide_eq_true a.1.2, a.2⟩
theorem p_index4 {N n t : Nat} {c : Nat → Int32} {μ ν : Mem} (h : PG N n c t μ ν) (fu : Nat) : fX13_indexIn (fu + 50) 0 4 ν = some (ix 4 (syA N n c t), ν) := by
  unfold fX13_indexIn ix
  simp only [jn_eq, nm_eq]
  have L : stl.getD 4 0 = 12 := rfl
  rw [L]
  refine (lp_ind (P := fun d (f : Mem → Int32 → Option (Int32 × Mem)) => ∀ k q, k + q = 12 → q < d + 1 → f ν (nI k) = some (ixG 4 (syA N n c t) q k, ν)) (fun f k q hk hq => ?_) (fun d f ih k q hk hq => ?_) 49 fu) 0 _ (by omega) (by omega)
  · obtain rfl : q = 0 := by omega
    rw [if_pos (show Int32.ofNat 12 ≤ nI k from by rw [show k = 12 by omega]; exact Int32.le_refl _)]
    rfl
  · obtain _ | q := q
    · rw [if_pos (show Int32.ofNat 12 ≤ nI k from by rw [show k = 12 by omega]; exact Int32.le_refl _)]
      rfl
    · rw [if_neg (show ¬ Int32.ofNat 12 ≤ nI k from fun z => absurd ((nI_leI (a := 12) (by omega) (by omega)).1 z) (by omega)), ckI_nI (show k < 12 by omega) (by omega), nI_clamp (n := k) (by omega)]
      show _ = some (if ¬ (4 = 1 ∧ k = 0) ∧ syA N n c t = swL 4 k then nI k else ixG 4 (syA N n c t) q (k + 1), ν)
      obtain ⟨s1, s2, s3, s4⟩ := sw4_ok k (by omega)
      have ew : fX13_isWord (fu + 50) 0 (syT.getD (swL 4 k) 0) ν = _ := p_word h s1 s3 s4 (fu + 36)
      rw [← s2, ew, bnd_some]
      by_cases g : syA N n c t = swL 4 k
      · rw [if_pos g, if_neg (show ¬ (1 : Int32) = 0 by decide), if_pos ⟨fun z => absurd z.1 (by decide), g⟩]
      · rw [if_neg g, if_pos (show (0 : Int32) = 0 from rfl), if_neg (fun z => g z.2), nI_1]
        exact ih (k + 1) q (by omega) (by omega)
theorem b_index4 {N n : Nat} {c : Nat → Int32} {μ ν : Mem} (h : PB N n c μ ν) (fu : Nat) : fX13_indexIn (fu + 50) 0 4 ν = some (-1, ν) := by
  unfold fX13_indexIn
  simp only [jn_eq, nm_eq]
  have L : stl.getD 4 0 = 12 := rfl
  rw [L]
  refine (lp_ind (P := fun d (f : Mem → Int32 → Option (Int32 × Mem)) => ∀ k q, k + q = 12 → q < d + 1 → f ν (nI k) = some (-1, ν)) (fun f k q hk hq => ?_) (fun d f ih k q hk hq => ?_) 49 fu) 0 _ (Nat.zero_add _) (by omega)
  · rw [if_pos (show Int32.ofNat 12 ≤ nI k from by rw [show k = 12 by omega]; exact Int32.le_refl _)]
  · obtain _ | q := q
    · rw [if_pos (show Int32.ofNat 12 ≤ nI k from by rw [show k = 12 by omega]; exact Int32.le_refl _)]
    · have ew : fX13_isWord (fu + 50) 0 (strAt 4 k) ν = some (0, ν) := b_isWord h (fu + 49)
      rw [if_neg (show ¬ Int32.ofNat 12 ≤ nI k from fun z => absurd ((nI_leI (a := 12) (by omega) (by omega)).1 z) (by omega)), ckI_nI (show k < 12 by omega) (by omega), nI_clamp (n := k) (by omega), ew, bnd_some, if_pos (show (0 : Int32) = 0 from rfl), nI_1]
      exact ih (k + 1) q (by omega) (by omega)
/-! codes -/
def emM (ν : Mem) (k : Nat) (x : Int32) : Mem := wI (wI ν 28 15 k x) 26 0 46 (nI (k + 1))
theorem m_emit {ν : Mem} {k : Nat} {x : Int32} (h26 : ν.1 26 0 26 = 0) (hk : ν.1 26 0 46 = nI k) (h : k < 200) : fX13_emit 0 x ν = some ((), emM ν k x) := by
  unfold fX13_emit
  simp only [jn_eq, nm_eq]
  rw [if_neg (fun z => z h26), hk, ckI_nI (show k < mil.getD 15 0 from h) (by decide), nI_clamp (n := k) (by omega)]
  have e : (wI ν 28 15 k x).1 26 0 46 = nI k := (wI_o (by omega)).trans hk
  rw [e, nI_1]
  rfl
theorem b_emit {N n : Nat} {c : Nat → Int32} {μ ν : Mem} {x : Int32} (b : PB N n c μ ν) : fX13_emit 0 x ν = some ((), ν) := by
  unfold fX13_emit
  simp only [jn_eq, nm_eq]
  rw [if_pos (b_err b)]
def opr (k a b : Int32) : Int32 := if k = -24 then a &&& b else if k = -22 then (if a ≤ b then 0 else 1) else if k = -21 then (if a = b then 1 else 0) else if k = -20 then (if b ≤ a then 0 else 1) else a ||| b
def ex1 (pe : Int32 → Option Int32) (k : Int32) (st : List Int32) : Option (List Int32) :=
  if k = -23 then (match st with | x :: r => some ((1 - x) :: r) | [] => none)
  else if k ≤ -20 then (match st with | b :: a :: r => some (opr k a b :: r) | _ => none)
  else if k < 0 then (match pe (-1 - k) with | some v => some (v :: st) | none => none)
  else some (k :: st)
def exs (pe : Int32 → Option Int32) (cd : Nat → Int32) : Nat → Nat → List Int32 → Option (List Int32)
  | 0, _, st => some st
  | n + 1, k, st => match ex1 pe (cd k) st with | some st' => exs pe cd n (k + 1) st' | none => none
theorem exs_add {pe : Int32 → Option Int32} {cd : Nat → Int32} : ∀ a b k st st', exs pe cd a k st = some st' → exs pe cd (a + b) k st = exs pe cd b (k + a) st' := by
  intro a
  induction a with
  | zero =>
    intro b k st st' h
    have := Option.some.inj h
    subst this
    rw [Nat.zero_add, Nat.add_zero]
  | succ a ih =>
    intro b k st st' h
    rw [show a + 1 + b = (a + b) + 1 by omega]
    have e1 : exs pe cd (a + 1) k st = match ex1 pe (cd k) st with | some st' => exs pe cd a (k + 1) st' | none => none := rfl
    have e2 : exs pe cd (a + b + 1) k st = match ex1 pe (cd k) st with | some st' => exs pe cd (a + b) (k + 1) st' | none => none := rfl
    rw [e1] at h
    rw [e2]
    cases hx : ex1 pe (cd k) st with
    | none => rw [hx] at h; exact absurd h (by simp)
    | some s =>
      rw [hx] at h
      show exs pe cd (a + b) (k + 1) s = _
      rw [ih b (k + 1) s st' h, show k + 1 + a = k + (a + 1) by omega]
theorem exs_c {pe : Int32 → Option Int32} {cd cd' : Nat → Int32} : ∀ a k st, (∀ j, k ≤ j → j < k + a → cd' j = cd j) → exs pe cd' a k st = exs pe cd a k st := by
  intro a
  induction a with
  | zero => intro k st _; rfl
  | succ a ih =>
    intro k st h
    unfold exs
    rw [h k (Nat.le_refl _) (by omega)]
    cases ex1 pe (cd k) st with
    | none => rfl
    | some s => exact ih (k + 1) s fun j h1 h2 => h j (by omega) (by omega)
/-- codes k .. k' push v -/
def VAL (pe : Int32 → Option Int32) (cd : Nat → Int32) (k k' : Nat) (v : Int32) : Prop := k ≤ k' ∧ ∀ st, exs pe cd (k' - k) k st = some (v :: st)
theorem val_c {pe : Int32 → Option Int32} {cd cd' : Nat → Int32} {k k' : Nat} {v : Int32} (h : VAL pe cd k k' v) (e : ∀ j, j < k' → cd' j = cd j) : VAL pe cd' k k' v := ⟨h.1, fun st => by rw [exs_c _ _ _ fun j h1 h2 => e j (by have := h.1; omega)]; exact h.2 st⟩
theorem val_num {pe : Int32 → Option Int32} {cd : Nat → Int32} {k : Nat} {x : Int32} (h : cd k = x) (h0 : ¬ x < 0) : VAL pe cd k (k + 1) x := ⟨Nat.le_succ k, fun st => by
  have h1 : ¬ x = -23 := fun z => h0 (by rw [z]; decide)
  have h2 : ¬ x ≤ -20 := fun z => h0 (Int32.lt_of_le_of_lt z (by decide))
  rw [show k + 1 - k = 0 + 1 by omega]
  unfold exs ex1
  rw [h, if_neg h1, if_neg h2, if_neg h0]
  rfl⟩
theorem val_prop {pe : Int32 → Option Int32} {cd : Nat → Int32} {k : Nat} {x v : Int32} (h : cd k = x) (h1 : ¬ x = -23) (h2 : ¬ x ≤ -20) (h0 : x < 0) (hv : pe (-1 - x) = some v) : VAL pe cd k (k + 1) v := ⟨Nat.le_succ k, fun st => by
  rw [show k + 1 - k = 0 + 1 by omega]
  unfold exs ex1
  rw [h, if_neg h1, if_neg h2, if_pos h0, hv]
  rfl⟩
theorem val_bin {pe : Int32 → Option Int32} {cd : Nat → Int32} {k k1 k2 : Nat} {a b x : Int32} (h1 : VAL pe cd k k1 a) (h2 : VAL pe cd k1 k2 b) (hx : cd k2 = x) (h3 : ¬ x = -23) (h4 : x ≤ -20) : VAL pe cd k (k2 + 1) (opr x a b) := ⟨by have := h1.1; have := h2.1; omega, fun st => by
  have a1 := h1.1
  have a2 := h2.1
  rw [show k2 + 1 - k = (k1 - k) + ((k2 - k1) + 1) by omega, exs_add _ _ _ _ _ (h1.2 st), show k + (k1 - k) = k1 by omega, exs_add _ _ _ _ _ (h2.2 (a :: st)), show k1 + (k2 - k1) = k2 by omega]
  show exs pe cd (0 + 1) k2 _ = _
  unfold exs ex1
  rw [hx, if_neg h3, if_pos h4]
  rfl⟩
theorem val_not {pe : Int32 → Option Int32} {cd : Nat → Int32} {k k1 : Nat} {a : Int32} (h1 : VAL pe cd k k1 a) (hx : cd k1 = -23) : VAL pe cd k (k1 + 1) (1 - a) := ⟨by have := h1.1; omega, fun st => by
  have a1 := h1.1
  rw [show k1 + 1 - k = (k1 - k) + (0 + 1) by omega, exs_add _ _ _ _ _ (h1.2 st), show k + (k1 - k) = k1 by omega]
  unfold exs ex1
  rw [hx, if_pos rfl]
  rfl⟩
/-! frames -/
def FcQ (μ μ' : Mem) : Prop := (∀ κ a q, ¬ (κ = 2 ∧ a = 0 ∧ (q = 6 ∨ q = 7 ∨ q = 8)) → ¬ κ = 24 → μ'.1 κ a q = μ.1 κ a q) ∧ μ'.2 = μ.2
def FmQ (ν ν' : Mem) : Prop := (∀ κ a q, ¬ (κ = 26 ∧ a = 0 ∧ (23 ≤ q ∧ q ≤ 27 ∨ q = 29 ∨ q = 46)) → ¬ (κ = 28 ∧ a = 15) → ν'.1 κ a q = ν.1 κ a q) ∧ ν'.2 = ν.2
theorem fcq_rfl {μ : Mem} : FcQ μ μ := ⟨fun _ _ _ _ _ => rfl, rfl⟩
theorem fcq_trans {a b d : Mem} (h : FcQ a b) (g : FcQ b d) : FcQ a d := ⟨fun κ n k z w => (g.1 κ n k z w).trans (h.1 κ n k z w), g.2.trans h.2⟩
theorem fmq_rfl {μ : Mem} : FmQ μ μ := ⟨fun _ _ _ _ _ => rfl, rfl⟩
theorem fmq_trans {a b d : Mem} (h : FmQ a b) (g : FmQ b d) : FmQ a d := ⟨fun κ n k z w => (g.1 κ n k z w).trans (h.1 κ n k z w), g.2.trans h.2⟩
theorem fcq_p {μ μ' : Mem} (h : FPc μ μ') : FcQ μ μ' := ⟨fun κ a q z _ => h.1 κ a q z, h.2⟩
theorem fmq_p {ν ν' : Mem} (h : FPm ν ν') : FmQ ν ν' := ⟨fun κ a q z _ => h.1 κ a q (by omega), h.2⟩
theorem fmq_e {ν : Mem} {k : Nat} {x : Int32} : FmQ ν (emM ν k x) := ⟨fun κ a q z w => by unfold emM; rw [wI_o (by omega), wI_o (by omega)], rfl⟩
theorem fmq_29 {ν : Mem} {x : Int32} : FmQ ν (wI ν 26 0 29 x) := ⟨fun κ a q z w => wI_o (by omega), rfl⟩
theorem pg_em {N n t k : Nat} {c : Nat → Int32} {μ ν : Mem} {x : Int32} (h : PG N n c t μ ν) : PG N n c t μ (emM ν k x) := pg_m h (fun q _ _ => by unfold emM; rw [wI_o (by omega), wI_o (by omega)]) (funext fun q => by unfold emM; rw [wI_o (by omega), wI_o (by omega)])
theorem pg_29 {N n t : Nat} {c : Nat → Int32} {μ ν : Mem} {x : Int32} (h : PG N n c t μ ν) : PG N n c t μ (wI ν 26 0 29 x) := pg_m h (fun q _ _ => wI_o (by omega)) (funext fun q => wI_o (by omega))
theorem pb_29 {N n : Nat} {c : Nat → Int32} {μ ν : Mem} {x : Int32} (h : PB N n c μ ν) : PB N n c μ (wI ν 26 0 29 x) := pb_m h (fun q _ _ => wI_o (by omega))
