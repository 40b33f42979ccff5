/-! THE LAW'S CASES IN PAIRS: the class's call, its answer laid aside, then the model's on the memory with the long as it was -/
theorem kJ_id {μ μ1 : Mem} (h1 : μ1.1 = μ.1) (h2 : μ1.2.1 = μ.2.1) (h3 : ∀ κ n k, κ ≠ 31 → μ1.2.2 κ n k = μ.2.2 κ n k) : kJ μ μ1 = μ := by
  refine Prod.ext h1 (Prod.ext h2 (funext fun κ => funext fun n => funext fun k => ?_))
  show (if κ = 31 then μ.2.2 κ n k else μ1.2.2 κ n k) = _
  by_cases h : κ = 31
  · rw [if_pos h]
  · rw [if_neg h, h3 κ n k h]
theorem inv2_keep {μ μ' : Mem} (h1 : ∀ κ n k, (κ = 32 ∨ κ = 33 ∨ (κ = 28 ∧ 13 ≤ n ∧ n ≤ 14) ∨ (κ = 26 ∧ n = 0 ∧ k = 41)) → μ'.1 κ n k = μ.1 κ n k) (h2 : μ'.2.1 33 0 0 = μ.2.1 33 0 0) (h : Inv2 μ) : Inv2 μ' := by
  obtain ⟨hF, c, ⟨s1, s2, s3, s4, s5, s6⟩, hc, hb⟩ := h
  have eb : bcap μ' = bcap μ := h2
  refine ⟨fun i a b => (h1 28 14 i (by omega)).trans (hF i a b), c, ⟨(h1 32 0 1 (by omega)).trans s1, by rw [eb]; exact s2, by rw [eb]; exact s3, s4, (h1 32 0 3 (by omega)).trans s5, fun k hk => ?_⟩, (h1 26 0 41 (by omega)).trans hc, fun k hk => ?_⟩
  · rw [h1 33 0 k (by omega)]; exact s6 k (by rw [← eb]; exact hk)
  · rw [h1 33 0 k (by omega), h1 28 13 k (by omega)]; exact hb k hk
theorem inv2_kr {μ μ' : Mem} (k : KR μ μ') (h : Inv2 μ) : Inv2 μ' := inv2_keep (fun κ n q h => k.1 κ n q (by omega) (by omega)) (k.2 33 0 0 (by decide)) h
theorem inv2_kc {μ μ' : Mem} (k : KC μ μ') (h : Inv2 μ) : Inv2 μ' := inv2_keep (fun κ n q h => k.1 κ n q (by omega)) (k.2 33 0 0 (Or.inr (by decide))) h
theorem inv2_t {μ : Mem} {t : Int32} (h : Inv2 μ) : Inv2 (wI μ 26 0 6 t) := inv2_keep (fun κ n q h => wI_o (by omega)) rfl h
def Pr {β γ : Type} (A : Nat ⊕ β → γ → Int32 → Prop) (μ : Mem) (F : Option (RX β)) (G : Mem → Option (γ × Mem)) : Prop :=
  ∃ x μ', F = some (x, μ') ∧ ∀ μ1 : Mem, μ1.1 = μ'.1 → μ1.2.1 = μ'.2.1 → (∀ κ n k, κ ≠ 31 → μ1.2.2 κ n k = μ'.2.2 κ n k) → ∃ y ν', G (kJ μ μ1) = some (y, ν') ∧ A x y (ν'.1 26 0 6) ∧ Inv ν'
def PrN (μ : Mem) (F : Option (Int32 × Mem)) (G : Mem → Option (Int32 × Mem)) : Prop :=
  ∃ v μ', F = some (v, μ') ∧ ∃ ν', G (kJ μ μ') = some (v, ν') ∧ Inv ν'
theorem pr_ask {p : Nat} {μ : Mem} {F : Option (RX Int32)} {G : Mem → Option (Int32 × Mem)} (hI : Inv2 μ) (h : Ask p μ F (G μ)) : Pr Ans μ F G := by
  obtain ⟨x, y, t, e1, e2, e3, e4⟩ := h
  refine ⟨x, μ, e1, fun μ1 h1 h2 h3 => ?_⟩
  rw [kJ_id h1 h2 h3]
  exact ⟨y, _, e2, by rw [wI_same]; exact e3, p, e4, inv2_t hI⟩
theorem pr_askL {p : Nat} {μ : Mem} {F : Option (RX Int64)} {G : Mem → Option (Int64 × Mem)} (hI : Inv2 μ) (h : AskL p μ F (G μ)) : Pr AnsL μ F G := by
  obtain ⟨x, y, t, e1, e2, e3, e4⟩ := h
  refine ⟨x, μ, e1, fun μ1 h1 h2 h3 => ?_⟩
  rw [kJ_id h1 h2 h3]
  exact ⟨y, _, e2, by rw [wI_same]; exact e3, p, e4, inv2_t hI⟩
theorem pr_op {β γ : Type} {A : Nat ⊕ β → γ → Int32 → Prop} {p : Nat} {μ : Mem} {F : Option (RX β)} {G : Mem → Option (γ × Mem)} (h : Rel p μ) (hI : Inv2 μ)
    (op : ∀ ν, Rel2 p μ ν → FLD ν → ∃ x μ' y ν' p', F = some (x, μ') ∧ G ν = some (y, ν') ∧ A x y (ν'.1 26 0 6) ∧ Rel2 p' μ' ν' ∧ KR μ μ' ∧ KC ν ν') : Pr A μ F G := by
  obtain ⟨x, μ', _, _, _, e, _, _, _, k, _⟩ := op μ h hI.1
  refine ⟨x, μ', e, fun μ1 h1 h2 _ => ?_⟩
  have kr : KR μ (kJ μ μ1) := ⟨fun κ n q a b => by show μ1.1 κ n q = _; rw [h1]; exact k.1 κ n q a b, fun κ n q a => by show μ1.2.1 κ n q = _; rw [h2]; exact k.2 κ n q a⟩
  have hr : Rel2 p μ (kJ μ μ1) := rel2_eq kc_rfl kr h
  have hI1 := inv2_kr kr hI
  obtain ⟨x2, μ2, y, ν', p', e1, e2, e3, e4, _, k2⟩ := op (kJ μ μ1) hr hI1.1
  obtain ⟨rfl, rfl⟩ := Prod.mk.inj (Option.some.inj (e.symm.trans e1))
  refine ⟨y, ν', e2, e3, p', rel2_eq ⟨fun κ n q a => (k2.1 κ n q a).trans (by show μ1.1 κ n q = _; rw [h1]), fun κ n q a => (k2.2 κ n q a).trans (by show μ1.2.1 κ n q = _; rw [h2])⟩ kr_rfl e4, inv2_kc k2 hI1⟩
theorem prN_ask {p : Nat} {μ : Mem} {F : Option (Int32 × Mem)} {G : Mem → Option (Int32 × Mem)} (hI : Inv2 μ) (h : AskN p μ F (G μ)) : PrN μ F G := by
  obtain ⟨v, e1, e2, e3⟩ := h
  refine ⟨v, μ, e1, ?_⟩
  rw [kJ_id rfl rfl (fun _ _ _ _ => rfl)]
  exact ⟨_, e2, p, e3, inv2_t hI⟩
theorem prN_op {p : Nat} {μ : Mem} {F : Option (Int32 × Mem)} {G : Mem → Option (Int32 × Mem)} (h : Rel p μ) (hI : Inv2 μ) (op : ∀ ν, Rel2 p μ ν → OpN p μ ν F (G ν)) : PrN μ F G := by
  obtain ⟨x, μ', _, e, _, _, _, k, _⟩ := op μ h
  have kr : KR μ (kJ μ μ') := ⟨k.1, k.2⟩
  have hI1 := inv2_kr kr hI
  obtain ⟨x2, μ2, ν', e1, e2, e3, e4, _, k2⟩ := op (kJ μ μ') (rel2_eq kc_rfl kr h)
  obtain ⟨rfl, rfl⟩ := Prod.mk.inj (Option.some.inj (e.symm.trans e1))
  exact ⟨x, μ', e, ν', e2, p, rel2_eq ⟨k2.1, k2.2⟩ kr_rfl e4, inv2_kc k2 hI1⟩
theorem lg_self (a : Int64) : lg_cmp a a = 0 := by
  unfold lg_cmp
  rw [if_neg (show ¬ a > a from Int64.lt_irrefl), if_pos rfl]
theorem wJ_at {μ : Mem} {κ n k : Nat} {v : Int64} : (wJ μ κ n k v).2.2 κ n k = v := if_pos ⟨rfl, rfl, rfl⟩
theorem wJ_far {μ : Mem} {a b d κ n k : Nat} {v : Int64} (h : κ ≠ a) : (wJ μ a b d v).2.2 κ n k = μ.2.2 κ n k := if_neg fun q => h q.1
theorem bndJ_some {α β : Type} {μ ν : Mem} {y : β} {k : β → Mem → Option α} : bndJ μ (some (y, ν)) k = k y (kJ μ ν) := rfl
theorem catX_inl {α β : Type} {e : Nat} {m : Mem} {kx : Nat → Mem → Option α} {k : β → Mem → Option α} : catX (some (.inl e, m)) kx k = kx e m := rfl
theorem catX_inr {α β : Type} {b : β} {m : Mem} {kx : Nat → Mem → Option α} {k : β → Mem → Option α} : catX (some (.inr b, m)) kx k = k b m := rfl
theorem thrown_eq {μ : Mem} : fX13_thrown 0 μ = some (μ.1 26 0 6, μ) := rfl
/-- a question with a wrapper, its answer a number -/
theorem law_int {β γ : Type} {A : Nat ⊕ β → γ → Int32 → Prop} {μ : Mem} {F : Option (RX β)} {G : Mem → Option (γ × Mem)} (hp : Pr A μ F G) (hd : Nat → Mem → Option (Int32 × Mem)) (vj : β → Int64) (vm : γ → Int64)
    (h1 : ∀ k y t μ', F = some (.inl k, μ') → A (.inl k) y t → hd k μ' = some (t, μ') ∧ ¬ t = 0) (h2 : ∀ v y t, A (.inr v) y t → t = 0 ∧ vj v = vm y) :
    ∃ μ', (bnd (catX F hd fun x2 μ1 => ckI (0 : Int32) 1 (some ((0 : Int32), wJ μ1 31 0 (0 : Int32).toNatClampNeg (vj x2)))) fun x2 μ1 => bndJ μ1 (G (kJ μ μ1)) fun x4 μ3 => bndJ μ3 (fX13_thrown 0 (kJ μ μ3)) fun x6 μ5 =>
      if x6 = x2 then (if ¬ x2 = 0 then some μ5 else ckI (0 : Int32) 1 (if lg_cmp (μ5.2.2 31 0 (0 : Int32).toNatClampNeg) (vm x4) = 0 then some μ5 else none)) else none) = some μ' ∧ Inv μ' := by
  obtain ⟨x, μ', e, hg⟩ := hp
  cases x with
  | inl k =>
    obtain ⟨y, ν', g1, g2, g3⟩ := hg μ' rfl rfl (fun _ _ _ _ => rfl)
    obtain ⟨d1, d2⟩ := h1 k y _ μ' e g2
    refine ⟨kJ (kJ μ' ν') (kJ μ (kJ μ' ν')), ?_, g3⟩
    rw [e, catX_inl, d1, bnd_some]
    rw [g1, bndJ_some]
    rw [thrown_eq, bndJ_some]
    rw [if_pos (show (kJ μ (kJ μ' ν')).1 26 0 6 = ν'.1 26 0 6 from rfl), if_pos d2]
  | inr v =>
    have c0 : ∀ {α : Type} (o : Option α), ckI (0 : Int32) 1 o = o := fun o => if_pos (by decide)
    obtain ⟨y, ν', g1, g2, g3⟩ := hg (wJ μ' 31 0 (0 : Int32).toNatClampNeg (vj v)) rfl rfl (fun κ n k h => wJ_far h)
    obtain ⟨d1, d2⟩ := h2 v y _ g2
    refine ⟨kJ (kJ (wJ μ' 31 0 (0 : Int32).toNatClampNeg (vj v)) ν') (kJ μ (kJ (wJ μ' 31 0 (0 : Int32).toNatClampNeg (vj v)) ν')), ?_, g3⟩
    rw [e, catX_inr, c0, bnd_some]
    rw [g1, bndJ_some]
    rw [thrown_eq, bndJ_some]
    rw [if_pos (show (kJ μ (kJ (wJ μ' 31 0 (0 : Int32).toNatClampNeg (vj v)) ν')).1 26 0 6 = 0 from d1), if_neg (fun h => h rfl), c0, if_pos ?_]
    show lg_cmp ((wJ μ' 31 0 (0 : Int32).toNatClampNeg (vj v)).2.2 31 0 (0 : Int32).toNatClampNeg) (vm y) = 0
    rw [wJ_at, d2, lg_self]
def zb (x : Int32) : Int64 := if x = 0 then 0 else 1
/-- .. or a truth value -/
theorem law_bool {A : Nat ⊕ Int32 → Int32 → Int32 → Prop} {μ : Mem} {F : Option (RX Int32)} {G : Mem → Option (Int32 × Mem)} (hp : Pr A μ F G) (hd : Nat → Mem → Option (Int32 × Mem))
    (h1 : ∀ k y t μ', F = some (.inl k, μ') → A (.inl k) y t → hd k μ' = some (t, μ') ∧ ¬ t = 0) (h2 : ∀ v y t, A (.inr v) y t → t = 0 ∧ zb v = zb y) :
    ∃ μ', (bnd (catX F hd fun x8 μ7 => if x8 = 0 then ckI (0 : Int32) 1 (some ((0 : Int32), wJ μ7 31 0 (0 : Int32).toNatClampNeg 0)) else ckI (0 : Int32) 1 (some ((0 : Int32), wJ μ7 31 0 (0 : Int32).toNatClampNeg 1))) fun x2 μ1 => bndJ μ1 (G (kJ μ μ1)) fun x4 μ3 => bndJ μ3 (fX13_thrown 0 (kJ μ μ3)) fun x6 μ5 =>
      if x6 = x2 then (if ¬ x2 = 0 then some μ5 else ckI (0 : Int32) 1 (if x4 = 0 then (if lg_cmp (μ5.2.2 31 0 (0 : Int32).toNatClampNeg) 0 = 0 then some μ5 else none) else (if lg_cmp (μ5.2.2 31 0 (0 : Int32).toNatClampNeg) 1 = 0 then some μ5 else none))) else none) = some μ' ∧ Inv μ' := by
  have h := law_int hp hd zb zb h1 h2
  have e1 : (fun (x8 : Int32) (μ7 : Mem) => if x8 = 0 then ckI (0 : Int32) 1 (some ((0 : Int32), wJ μ7 31 0 (0 : Int32).toNatClampNeg 0)) else ckI (0 : Int32) 1 (some ((0 : Int32), wJ μ7 31 0 (0 : Int32).toNatClampNeg 1))) = fun x2 μ1 => ckI (0 : Int32) 1 (some ((0 : Int32), wJ μ1 31 0 (0 : Int32).toNatClampNeg (zb x2))) := by
    funext x m
    unfold zb
    split <;> rfl
  have e2 : ∀ (x4 : Int32) (μ5 : Mem), (if x4 = 0 then (if lg_cmp (μ5.2.2 31 0 (0 : Int32).toNatClampNeg) 0 = 0 then some μ5 else none) else (if lg_cmp (μ5.2.2 31 0 (0 : Int32).toNatClampNeg) 1 = 0 then some μ5 else none)) = if lg_cmp (μ5.2.2 31 0 (0 : Int32).toNatClampNeg) (zb x4) = 0 then some μ5 else none := by
    intro x m
    unfold zb
    split <;> rfl
  simp only [e1, e2]
  exact h
theorem law_N {μ : Mem} {F : Option (Int32 × Mem)} {G : Mem → Option (Int32 × Mem)} (hp : PrN μ F G) : ∃ μ', (bnd F fun x2 μ1 => bndJ μ1 (G (kJ μ μ1)) fun x4 μ3 => if x2 = x4 then some μ3 else none) = some μ' ∧ Inv μ' := by
  obtain ⟨v, μ', e, ν', g1, g2⟩ := hp
  refine ⟨kJ μ' ν', ?_, g2⟩
  rw [e, bnd_some]
  rw [g1, bndJ_some]
  exact if_pos rfl
/-! which exceptions a method throws -/
def Ek {β : Type} (S : Nat → Prop) (o : Option (RX β)) : Prop := ∀ k μ', o = some (.inl k, μ') → S k
section EkRules
variable {β γ : Type} {S : Nat → Prop} {μ : Mem}
theorem ek_none : Ek (β := β) S none := fun _ _ h => by cases h
theorem ek_inr {v : β} : Ek S (some (.inr v, μ)) := fun _ _ h => by cases h
theorem ek_inl {k : Nat} (h : S k) : Ek (β := β) S (some (.inl k, μ)) := fun _ _ e => by cases e; exact h
theorem ek_bnd {δ : Type} {o : Option (δ × Mem)} {k : δ → Mem → Option (RX β)} (h : ∀ r μ, Ek S (k r μ)) : Ek S (bnd o k) := fun q μ' e => by
  obtain ⟨r, _, e2⟩ := Option.bind_eq_some_iff.mp e
  exact h _ _ q μ' e2
theorem ek_bndX {o : Option (RX γ)} {k : γ → Mem → Option (RX β)} (h1 : Ek S o) (h : ∀ r μ, Ek S (k r μ)) : Ek S (bndX o k) := fun q μ' e => by
  obtain ⟨r, e1, e2⟩ := Option.bind_eq_some_iff.mp e
  obtain ⟨x, m⟩ := r
  cases x with
  | inl j => cases e2; exact h1 _ _ e1
  | inr b => exact h _ _ q μ' e2
theorem ek_ite {c : Prop} [Decidable c] {a b : Option (RX β)} (h1 : Ek S a) (h2 : Ek S b) : Ek S (if c then a else b) := by
  split
  · exact h1
  · exact h2
end EkRules
