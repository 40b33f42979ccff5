/-! PARSING: what is read of one engine: its setup (class: row j), its block in the draft -/
theorem tt_set {N B i0 m : Nat} {c : Nat → Int32} {V : Nat → Option Nat} {ν ν' : Mem} (h : NM N c V B i0 m ν) (P : Nat → Prop) (h1 : ∀ a, ¬ P a → ν'.1 27 1 a = ν.1 27 1 a) (h2 : ∀ a, P a → nf i0 a ν) (e12 : ν'.1 28 12 = ν.1 28 12) (e10 : ν'.1 28 10 = ν.1 28 10) (e39 : ν'.1 26 0 39 = ν.1 26 0 39) :
    (∀ a, P a → TT V ν' a = ν'.1 27 1 a) ∧ ∀ a, ¬ P a → TT V ν' a = TT V ν a := by
  have c0 := nm_cnt h
  have et : nTg ν' = nTg ν := by funext j; unfold nTg; rw [e12]
  have ev : nVl V ν' = nVl V ν := by funext j; unfold nVl; rw [e10]
  have no := fun a ha => nf_no h (h2 a ha)
  have key : ∀ k, k ≤ m → (∀ a, P a → layF (ν'.1 27 1) (nTg ν) (nVl V ν) k a = ν'.1 27 1 a) ∧ ∀ a, ¬ P a → layF (ν'.1 27 1) (nTg ν) (nVl V ν) k a = layF (ν.1 27 1) (nTg ν) (nVl V ν) k a := by
    intro k
    induction k with
    | zero => intro _; exact ⟨fun _ _ => rfl, fun a ha => h1 a ha⟩
    | succ k ih =>
      intro hk
      obtain ⟨a1, a2⟩ := ih (by omega)
      refine ⟨fun a ha => ?_, fun a ha => ?_⟩
      · show (if a = nTg ν k then _ else layF (ν'.1 27 1) (nTg ν) (nVl V ν) k a) = _
        rw [if_neg (fun z => no a ha k (by omega) z.symm), a1 a ha]
      · show (if a = nTg ν k then _ else layF (ν'.1 27 1) (nTg ν) (nVl V ν) k a) = if a = nTg ν k then _ else layF (ν.1 27 1) (nTg ν) (nVl V ν) k a
        rw [a2 a ha]
  obtain ⟨k1, k2⟩ := key m (Nat.le_refl m)
  unfold TT
  rw [et, ev, e39, c0]
  exact ⟨k1, k2⟩
/-- the setup's state while it is read -/
def ES (N : Nat) (c : Nat → Int32) (M : Md) (i0 m e j : Nat) (T0 : Nat → Int32) (μ ν : Mem) : Prop :=
  QS M.2 (μ.1 8 j) (fun k => TT M.1 ν (476 + 21 * e + k)) ∧ NM N c M.1 M.2 i0 m ν ∧ ν.1 27 1 (476 + 21 * e) = 1 ∧ ∀ a, ¬ (476 + 21 * e ≤ a ∧ a < 497 + 21 * e) → TT M.1 ν a = T0 a
/-- frames: only this engine's setup, names, and the readers' places -/
def FcE (j : Nat) (μ μ' : Mem) : Prop := (∀ κ a q, ¬ (κ = 2 ∧ a = 0 ∧ (q = 6 ∨ q = 7 ∨ q = 8)) → ¬ (κ = 8 ∧ a = j) → μ'.1 κ a q = μ.1 κ a q) ∧ μ'.2 = μ.2
def FmE (e : Nat) (ν ν' : Mem) : Prop := (∀ κ a q, ¬ (κ = 26 ∧ a = 0 ∧ (23 ≤ q ∧ q ≤ 27 ∨ q = 39)) → ¬ (κ = 27 ∧ a = 1 ∧ 476 + 21 * e ≤ q ∧ q < 497 + 21 * e) → ¬ (κ = 28 ∧ 10 ≤ a ∧ a ≤ 12) → ν'.1 κ a q = ν.1 κ a q) ∧ ν'.2 = ν.2
theorem fce_rfl {j : Nat} {μ : Mem} : FcE j μ μ := ⟨fun _ _ _ _ _ => rfl, rfl⟩
theorem fce_trans {j : Nat} {a b d : Mem} (h : FcE j a b) (g : FcE j b d) : FcE j a d := ⟨fun κ n k z w => (g.1 κ n k z w).trans (h.1 κ n k z w), g.2.trans h.2⟩
theorem fme_rfl {e : Nat} {μ : Mem} : FmE e μ μ := ⟨fun _ _ _ _ _ _ => rfl, rfl⟩
theorem fme_trans {e : Nat} {a b d : Mem} (h : FmE e a b) (g : FmE e b d) : FmE e a d := ⟨fun κ n k z w v => (g.1 κ n k z w v).trans (h.1 κ n k z w v), g.2.trans h.2⟩
theorem fce_p {j : Nat} {μ μ' : Mem} (h : FPc μ μ') : FcE j μ μ' := ⟨fun κ a q z _ => h.1 κ a q z, h.2⟩
theorem fme_p {e : Nat} {ν ν' : Mem} (h : FPm ν ν') : FmE e ν ν' := ⟨fun κ a q z _ _ => h.1 κ a q (by omega), h.2⟩
theorem fce_w {j k : Nat} {μ : Mem} {v : Int32} : FcE j μ (wI μ 8 j k v) := ⟨fun κ a q _ z => wI_o (by omega), rfl⟩
theorem fme_w {e k : Nat} {ν : Mem} {v : Int32} (hk : k < 21) : FmE e ν (wI ν 27 1 (476 + 21 * e + k) v) := ⟨fun κ a q _ z _ => wI_o (by omega), rfl⟩
theorem fme_n {e m x l g : Nat} {ν : Mem} : FmE e ν (noteM ν m x l g) := ⟨fun κ a q y z w => by unfold noteM; rw [wI_o (by omega), wI_o (by omega), wI_o (by omega), wI_o (by omega)], rfl⟩
theorem fn_p {ν ν' : Mem} (h : FPm ν ν') : FN ν ν' := fn_of (h.1 _ _ _ (by omega)) (fun j a _ _ => h.1 _ _ _ (by omega))
theorem fn_w {ν : Mem} {p : Nat} {v : Int32} : FN ν (wI ν 27 1 p v) := fn_of (wI_o (by omega)) (fun j a _ _ => wI_o (by omega))
theorem kt_w {j k : Nat} {μ : Mem} {v : Int32} : KT μ (wI μ 8 j k v) := ⟨fun κ a q z => wI_o (by omega), rfl⟩
theorem kt_trans {a b d : Mem} (h : KT a b) (g : KT b d) : KT a d := ⟨fun κ n k z => (g.1 κ n k z).trans (h.1 κ n k z), g.2.trans h.2⟩
theorem kt_rfl {a : Mem} : KT a a := ⟨fun _ _ _ _ => rfl, rfl⟩
theorem sd_all : ∀ i, i < 17 → i = 2 ∨ 5 ≤ i → (sdep.getD i []).all (fun k => decide (k ≠ 0 ∧ k ≠ 1 ∧ k ≠ 3 ∧ k ≠ 4)) = true := by decide +kernel
theorem es_upd {N i0 m e j : Nat} {c : Nat → Int32} {M : Md} {T0 : Nat → Int32} {μ ν μ' ν' : Mem} (h : ES N c M i0 m e j T0 μ ν) (he : e < 4) (hi0 : i0 ≤ 32) (i : Nat) (hi : i < 17) (hi' : i = 2 ∨ 5 ≤ i)
    (e1 : ∀ k, k < 20 → k ∉ mdep.getD i [] → μ'.1 8 j k = μ.1 8 j k) (e2 : ∀ a, (∀ k, k < 21 → k ∈ sdep.getD i [] → a ≠ 476 + 21 * e + k) → ν'.1 27 1 a = ν.1 27 1 a)
    (e3 : ∀ a, 10 ≤ a → a ≤ 12 → ν'.1 28 a = ν.1 28 a) (e4 : ν'.1 26 0 39 = ν.1 26 0 39) (hf : fS M.2 (μ'.1 8 j) (fun k => ν'.1 27 1 (476 + 21 * e + k)) i) : ES N c M i0 m e j T0 μ' ν' := by
  obtain ⟨h1, h2, h3, h4⟩ := h
  have sd : ∀ i, i < 17 → i = 2 ∨ 5 ≤ i → ∀ k, k < 21 → k ∈ sdep.getD i [] → k ≠ 0 ∧ k ≠ 1 ∧ k ≠ 3 ∧ k ≠ 4 := fun i hi hh k _ hk => of_decide_eq_true (List.all_eq_true.1 (sd_all i hi hh) k hk)
  have nfP : ∀ a, (∃ k, k < 21 ∧ k ∈ sdep.getD i [] ∧ a = 476 + 21 * e + k) → nf i0 a ν := fun a ⟨k, k1, k2, k3⟩ => by
    have := sd i hi hi' k k1 k2
    exact ⟨fun e' he' hq => absurd hq (by omega), fun q hq hq' => by omega⟩
  obtain ⟨t1, t2⟩ := tt_set h2 (fun a => ∃ k, k < 21 ∧ k ∈ sdep.getD i [] ∧ a = 476 + 21 * e + k) (fun a ha => e2 a fun k k1 k2 k3 => ha ⟨k, k1, k2, k3⟩) nfP (e3 12 (by decide) (by decide)) (e3 10 (by decide) (by decide)) e4
  refine ⟨qs_upd h1 i hi e1 (fun k hk hn => t2 _ fun ⟨k', k1, k2, k3⟩ => hn (by rw [show k = k' by omega]; exact k2)) ?_, nm_congr h2 (fun e' he' hx => ?_) e3 e4, ?_, fun a ha => (t2 a fun ⟨k, k1, k2, k3⟩ => ha (by omega)).trans (h4 a ha)⟩
  · refine fS_c hi (fun _ _ _ => rfl) (fun k hk hm => ?_) hf
    exact t1 _ ⟨k, hk, hm, rfl⟩
  · rw [e2 _ fun k k1 k2 k3 => ?_]; exact hx
    have := sd i hi hi' k k1 k2
    omega
  · rw [e2 _ fun k k1 k2 k3 => ?_]; exact h3
    have := sd i hi hi' k k1 k2
    omega
/-- the invariant of the settings -/
def IS (N n : Nat) (c : Nat → Int32) (i0 e j : Nat) (T0 : Md → Nat → Int32) (z : Nat) (M : Md) (t : Nat) (μ ν : Mem) : Prop := LC N n c M.1 μ ∧ ∃ m, 3 * m + z ≤ tkP c N t ∧ ES N c M i0 m e j (T0 M) μ ν
theorem is_z {T0 : Md → Nat → Int32} {N n i0 e j z z' t t' : Nat} {c : Nat → Int32} {M : Md} {μ ν : Mem} (h : IS N n c i0 e j T0 z M t μ ν) (hz : tkP c N t + z' ≤ tkP c N t' + z) : IS N n c i0 e j T0 z' M t' μ ν := by
  obtain ⟨h1, m, h2, h3⟩ := h
  exact ⟨h1, m, by omega, h3⟩
def fin (ν : Mem) : Option (Int32 × Mem) := if ¬ ν.1 26 0 26 = 0 then some (0, ν) else some (1, ν)
theorem fin_b {N n : Nat} {c : Nat → Int32} {μ ν : Mem} (h : PB N n c μ ν) : fin ν = some (0, ν) := if_pos (b_err h)
theorem fin_g {N n t : Nat} {c : Nat → Int32} {μ ν : Mem} (h : PG N n c t μ ν) : fin ν = some (1, ν) := if_neg (fun z => z h.2.2.2.2.1)
/-- one number for one field: class cell f, model cell g -/
theorem set_one {T0 : Md → Nat → Int32} {N n t i0 e j lo hi i f g : Nat} {c : Nat → Int32} {M : Md} {μ ν : Mem} (h : PG N n c t μ ν) (hI : IS N n c i0 e j T0 0 M t μ ν) (he : e < 4) (hi0 : i0 ≤ 32) (hh : hi < 100000) (hlo : lo ≤ hi) (hi1 : i < 17) (hi2 : i = 2 ∨ 5 ≤ i) (hg : g < 21)
    (hm : ∀ k, k < 20 → k ∉ mdep.getD i [] → k ≠ f) (hs : ∀ k, k < 21 → k = g → k ∈ sdep.getD i []) (hf : ∀ m S k, lo ≤ k → k ≤ hi → S g = nI k → m f = nI k → fS M.2 m S i) (fu : Nat) :
    P2 N n c (fun μ => bnd (fX11_takeNumber 0 (nI lo) (nI hi) μ) fun x μ1 => some ((), wI μ1 8 j f x)) (bnd (fX13_putNumber (fu + 1001) 0 (nI (476 + 21 * e + g)) (nI lo) (nI hi) ν) fun _ ν1 => fin ν1) t μ ν (fun t' b μ' ν' => b = 1 ∧ IS N n c i0 e j T0 0 M t' μ' ν') (FcE j) (FmE e) 0 := by
  obtain ⟨μ1, ν1, v, s1, s2, s3, s4⟩ := p_put h hh hlo (p := 476 + 21 * e + g) (by omega) fu
  obtain ⟨hL, m, hz, hE⟩ := hI
  rcases s3 with ⟨a1, ⟨k, k1, k2, rfl⟩, a3, a4⟩ | ⟨a1, a2, a3⟩
  · have fc : FcE j μ (wI μ1 8 j f (nI k)) := fce_trans (fce_p s4) fce_w
    have fm : FmE e ν ν1 := fme_trans (fme_w hg) (fme_p a4)
    have g1 : PG N n c (t + 1) (wI μ1 8 j f (nI k)) ν1 := pg_c a3 (fun κ a q z => wI_o (by omega)) rfl
    refine ⟨1, wI μ1 8 j f (nI k), ν1, by show bnd _ _ = _; rw [s1, bnd_some], by rw [s2, bnd_some, fin_g g1], fc, fm, fn_trans fn_w (fn_p a4), Or.inr ⟨t + 1, by omega, g1, rfl, lc_c hL (fun κ a q z => fc.1 κ a q (by omega) (by omega)), m, ?_, ?_⟩⟩
    · have := tk_lt h.1 a1; omega
    · refine es_upd hE he hi0 i hi1 hi2 (fun k' k1 k2 => ?_) (fun a ha => ?_) (fun a _ _ => ?_) ?_ (hf _ _ k k1 k2 ?_ wI_same)
      · have := hm k' k1 k2
        rw [wI_o (by omega)]; exact s4.1 _ _ _ (by omega)
      · rw [a4.1 _ _ _ (by omega), wI_o (by have := ha g hg (hs g hg rfl); omega)]
      · funext q; rw [a4.1 _ _ _ (by omega), wI_o (by omega)]
      · rw [a4.1 _ _ _ (by omega), wI_o (by omega)]
      · show ν1.1 27 1 _ = _
        rw [a4.1 _ _ _ (by omega), wI_same]
  · refine ⟨0, wI μ1 8 j f v, ν1, by show bnd _ _ = _; rw [s1, bnd_some], by rw [s2, bnd_some, fin_b a2], fce_trans (fce_p s4) fce_w, fme_p a3, fn_p a3, Or.inl ⟨pb_c a2 (fun κ a q z => wI_o (by omega)) rfl, rfl⟩⟩
