/-! PARSING: one instruction (class: row j; model: the six cells of number cnt) -/
def FcI (j : Nat) (μ μ' : Mem) : Prop := (∀ κ a q, ¬ (κ = 2 ∧ a = 0 ∧ (q = 6 ∨ q = 7 ∨ q = 8)) → ¬ (κ = 9 ∧ a = j) → μ'.1 κ a q = μ.1 κ a q) ∧ (∀ κ a q, ¬ (κ = 9 ∧ a = j) → μ'.2.1 κ a q = μ.2.1 κ a q) ∧ μ'.2.2 = μ.2.2 ∧ (SY μ → SY μ')
def FmI (cnt : Nat) (ν ν' : Mem) : Prop := (∀ κ a q, ¬ (κ = 26 ∧ a = 0 ∧ (23 ≤ q ∧ q ≤ 27 ∨ q = 39)) → ¬ (κ = 27 ∧ a = 1 ∧ 284 + 6 * cnt ≤ q ∧ q < 290 + 6 * cnt) → ¬ (κ = 28 ∧ 10 ≤ a ∧ a ≤ 12) → ν'.1 κ a q = ν.1 κ a q) ∧ ν'.2 = ν.2
theorem fci_rfl {j : Nat} {μ : Mem} : FcI j μ μ := ⟨fun _ _ _ _ _ => rfl, fun _ _ _ _ => rfl, rfl, id⟩
theorem fci_trans {j : Nat} {a b d : Mem} (h : FcI j a b) (g : FcI j b d) : FcI j a d := ⟨fun κ n k z w => (g.1 κ n k z w).trans (h.1 κ n k z w), fun κ n k z => (g.2.1 κ n k z).trans (h.2.1 κ n k z), g.2.2.1.trans h.2.2.1, fun z => g.2.2.2 (h.2.2.2 z)⟩
theorem fmi_rfl {e : Nat} {μ : Mem} : FmI e μ μ := ⟨fun _ _ _ _ _ _ => rfl, rfl⟩
theorem fmi_trans {e : Nat} {a b d : Mem} (h : FmI e a b) (g : FmI e b d) : FmI e a d := ⟨fun κ n k z w v => (g.1 κ n k z w v).trans (h.1 κ n k z w v), g.2.trans h.2⟩
theorem fci_p {j : Nat} {μ μ' : Mem} (h : FPc μ μ') : FcI j μ μ' := ⟨fun κ a q z _ => h.1 κ a q z, fun _ _ _ _ => by rw [h.2], by rw [h.2], sy_same (by rw [h.2])⟩
theorem fmi_p {e : Nat} {ν ν' : Mem} (h : FPm ν ν') : FmI e ν ν' := ⟨fun κ a q z _ _ => h.1 κ a q (by omega), h.2⟩
theorem fci_w {j k : Nat} {μ : Mem} {v : Int32} : FcI j μ (wI μ 9 j k v) := ⟨fun κ a q _ z => wI_o (by omega), fun _ _ _ _ => rfl, rfl, id⟩
theorem fci_r {j k v : Nat} {μ : Mem} (hv : v < 74) : FcI j μ (wR μ 9 j k v) := ⟨fun _ _ _ _ _ => rfl, fun κ a q z => wR_o (by omega), rfl, fun h i hi => by
  obtain ⟨a, b, d, e⟩ := h i hi
  refine ⟨?_, ?_, ?_, ?_⟩ <;> (rw [wR_at]; split <;> assumption)⟩
theorem fmi_w {e k : Nat} {ν : Mem} {v : Int32} (hk : k < 6) : FmI e ν (wI ν 27 1 (284 + 6 * e + k) v) := ⟨fun κ a q _ z _ => wI_o (by omega), rfl⟩
theorem fmi_n {e m x l g : Nat} {ν : Mem} : FmI e ν (noteM ν m x l g) := ⟨fun κ a q y z w => by unfold noteM; rw [wI_o (by omega), wI_o (by omega), wI_o (by omega), wI_o (by omega)], rfl⟩
theorem kt_9 {j k : Nat} {μ : Mem} {v : Int32} : KT μ (wI μ 9 j k v) := ⟨fun κ a q z => wI_o (by omega), rfl⟩
theorem kt_r {j k v : Nat} {μ : Mem} : KT μ (wR μ 9 j k v) := ⟨fun _ _ _ _ => rfl, funext fun a => wR_o (by omega)⟩
abbrev RR := Nat → (Nat → Int32) → (Nat → Int32) → (Nat → Nat) → Prop
def IO (N n : Nat) (c : Nat → Int32) (i0 j cnt z : Nat) (T0 : Md → Nat → Int32) (R : RR) (M : Md) (t : Nat) (μ ν : Mem) : Prop :=
  LC N n c M.1 μ ∧ ∃ m, 3 * m + z ≤ tkP c N t ∧ NM N c M.1 M.2 i0 m ν ∧ (∀ a, ¬ (284 + 6 * cnt ≤ a ∧ a < 290 + 6 * cnt) → TT M.1 ν a = T0 M a) ∧ R M.2 (fun k => TT M.1 ν (284 + 6 * cnt + k)) (μ.1 9 j) (μ.2.1 9 j)
/-- one cell of the row, one cell of the draft -/
theorem io_upd {N n i0 j cnt z g t t' : Nat} {c : Nat → Int32} {T0 : Md → Nat → Int32} {R R' : RR} {M : Md} {μ ν μ' ν' : Mem} (h : IO N n c i0 j cnt z T0 R M t μ ν) (hc : cnt < 32) (ht : tkP c N t ≤ tkP c N t') (fc : FcI j μ μ') (hg : g < 6) (hn : i0 ≤ cnt ∨ g ≠ 2)
    (e2 : ∀ a, a ≠ 284 + 6 * cnt + g → ν'.1 27 1 a = ν.1 27 1 a) (e3 : ∀ a, 10 ≤ a → a ≤ 12 → ν'.1 28 a = ν.1 28 a) (e4 : ν'.1 26 0 39 = ν.1 26 0 39)
    (hR : ∀ P, R M.2 P (μ.1 9 j) (μ.2.1 9 j) → R' M.2 (fun k => if k = g then ν'.1 27 1 (284 + 6 * cnt + g) else P k) (μ'.1 9 j) (μ'.2.1 9 j)) : IO N n c i0 j cnt z T0 R' M t' μ' ν' := by
  obtain ⟨h1, m, h2, h3, h4, h5⟩ := h
  have nfP : ∀ a, a = 284 + 6 * cnt + g → nf i0 a ν := fun a ha => ⟨fun e he hq => absurd hq (by omega), fun i hi hi' => by omega⟩
  obtain ⟨t1, t2⟩ := tt_set h3 (fun a => a = 284 + 6 * cnt + g) (fun a ha => e2 a ha) nfP (e3 12 (by decide) (by decide)) (e3 10 (by decide) (by decide)) e4
  refine ⟨lc_c h1 (fun κ a q w => fc.1 κ a q (by omega) (by omega)), m, by omega, nm_congr h3 (fun e he hx => by rw [e2 _ (by omega)]; exact hx) e3 e4, fun a ha => (t2 a (by omega)).trans (h4 a ha), ?_⟩
  have := hR _ h5
  have ef : (fun k => TT M.1 ν' (284 + 6 * cnt + k)) = fun k => if k = g then ν'.1 27 1 (284 + 6 * cnt + g) else TT M.1 ν (284 + 6 * cnt + k) := by
    funext k
    by_cases e : k = g
    · rw [if_pos e, e]; exact t1 _ rfl
    · rw [if_neg e]; exact t2 _ (by omega)
  rw [ef]
  exact this
theorem x_add {e k : Nat} : nI (284 + 6 * e) + nI k = nI (284 + 6 * e + k) := nI_add _ _
theorem x_ck {α : Type} {e k : Nat} (he : e < 32) (hk : k < 6) {o : Option α} : ckI (nI (284 + 6 * e + k)) 700 o = o := ckI_nI (show 284 + 6 * e + k < 700 by omega) (by decide)
theorem x_cl {e k : Nat} (he : e < 32) (hk : k < 6) : (nI (284 + 6 * e + k)).toNatClampNeg = 284 + 6 * e + k := nI_clamp (by omega)
/-- a number -/
def spN (lo hi g f : Nat) (R : RR) : RR := fun B P m r => ∃ k : Nat, lo ≤ k ∧ k ≤ hi ∧ P g = nI k ∧ m f = nI k ∧ ∃ P0 m0, R B P0 m0 r ∧ (∀ i, i ≠ g → P i = P0 i) ∧ ∀ i, i ≠ f → m i = m0 i
theorem op_num {N n i0 j cnt z t lo hi g f : Nat} {c : Nat → Int32} {T0 : Md → Nat → Int32} {R : RR} {M0 M1 : Md} {μ ν : Mem} (h : PG N n c t μ ν) (hI : IO N n c i0 j cnt z T0 R M0 t μ ν) (hc : cnt < 32) (hg : g < 6) (hn : i0 ≤ cnt ∨ g ≠ 2) (hh : hi < 100000) (hlo : lo ≤ hi) (fu : Nat) :
    J2 N n c M0 M1 (fun μ => bnd (fX11_takeNumber 0 (nI lo) (nI hi) μ) fun x μ1 => some ((), wI μ1 9 j f x)) (fX13_putNumber (fu + 1001) 0 (nI (284 + 6 * cnt + g)) (nI lo) (nI hi) ν) t μ ν (IO N n c i0 j cnt z T0 R) (fun M t' _ μ' ν' => IO N n c i0 j cnt z T0 (spN lo hi g f R) M t' μ' ν') (FcI j) (FmI cnt) () := by
  refine j2_of (fun M μ _ hg' i => ?_) h hI
  obtain ⟨μ1, ν1, v, s1, s2, s3, s4⟩ := p_put hg' hh hlo (p := 284 + 6 * cnt + g) (by omega) fu
  have fc : FcI j μ (wI μ1 9 j f v) := fci_trans (fci_p s4) fci_w
  rcases s3 with ⟨a1, ⟨k, k1, k2, rfl⟩, a3, a4⟩ | ⟨a1, a2, a3⟩
  · refine ⟨(), _, ν1, by show bnd _ _ = _; rw [s1, bnd_some], s2, fc, fmi_trans (fmi_w hg) (fmi_p a4), fn_trans fn_w (fn_p a4), Or.inr ⟨t + 1, by omega, pg_c a3 (fun κ a q z => wI_o (by omega)) rfl, ?_⟩⟩
    have em : ν1.1 27 1 (284 + 6 * cnt + g) = nI k := (a4.1 _ _ _ (by omega)).trans wI_same
    refine io_upd i hc (Nat.le_of_lt (tk_lt h.1 a1)) fc hg hn (fun a ha => by rw [a4.1 _ _ _ (by omega), wI_o (by omega)]) (fun a _ _ => funext fun q => by rw [a4.1 _ _ _ (by omega), wI_o (by omega)]) (by rw [a4.1 _ _ _ (by omega), wI_o (by omega)]) (fun P hP => ⟨k, k1, k2, (if_pos rfl).trans em, wI_same, P, _, by show R _ _ _ (μ1.2.1 9 j); rw [s4.2]; exact hP, fun i hi => if_neg hi, fun i hi => by rw [wI_o (by omega)]; exact s4.1 _ _ _ (by omega)⟩)
  · exact ⟨(), _, ν1, by show bnd _ _ = _; rw [s1, bnd_some], s2, fc, fmi_p a3, fn_p a3, Or.inl ⟨pb_c a2 (fun κ a q z => wI_o (by omega)) rfl, rfl⟩⟩
/-- a place of the list, in the role ro (mask mk) -/
def spP (ro : Int32) (g f : Nat) (R : RR) : RR := fun B P m r => ∃ a, a < 74 ∧ ¬ syR.getD a 0 &&& ro = 0 ∧ P g = ix 2 a ∧ r f = a ∧ ∃ P0 r0, R B P0 m r0 ∧ (∀ i, i ≠ g → P i = P0 i) ∧ ∀ i, i ≠ f → r i = r0 i
theorem op_place {N n i0 j cnt z t g f : Nat} {ro mk : Int32} {c : Nat → Int32} {T0 : Md → Nat → Int32} {R : RR} {M0 M1 : Md} {μ ν : Mem} (h : PG N n c t μ ν) (hI : IO N n c i0 j cnt z T0 R M0 t μ ν) (hc : cnt < 32) (hg : g < 6) (hn : i0 ≤ cnt ∨ g ≠ 2) (hm : ∀ s, s < 74 → (¬ syR.getD s 0 &&& ro = 0 ↔ ¬ ix 2 s = -1 ∧ (mk >>> (ix 2 s &&& 31)) &&& 1 = 1)) (fu : Nat) :
    J2 N n c M0 M1 (fun μ => bnd (fX11_takeRole 0 ro μ) fun a μ1 => ckB a 74 (some ((), wR μ1 9 j f a))) (fX13_readPlace (fu + 1001) 0 (nI (284 + 6 * cnt + g)) mk ν) t μ ν (IO N n c i0 j cnt z T0 R) (fun M t' _ μ' ν' => IO N n c i0 j cnt z T0 (spP ro g f R) M t' μ' ν') (FcI j) (FmI cnt) () := by
  refine j2_of (fun M μ _ hg' i => ?_) h hI
  obtain ⟨μ1, ν1, a, s1, s2, s3, s4⟩ := p_place hg' (p := 284 + 6 * cnt + g) (by omega) hm fu
  rcases s3 with ⟨a1, a2, a3, a4, a5⟩ | ⟨a1, a2, a3⟩
  · have al : a < 74 := by rw [a2]; exact syA_lt
    have fc : FcI j μ (wR μ1 9 j f a) := fci_trans (fci_p s4) (fci_r al)
    refine ⟨(), _, ν1, by show bnd _ _ = _; rw [s1, bnd_some, ckB_ok al], s2, fc, fmi_trans (fmi_w hg) (fmi_p a5), fn_trans fn_w (fn_p a5), Or.inr ⟨t + 1, by omega, pg_c a4 (fun κ a q z => rfl) (funext fun q => wR_o (by omega)), ?_⟩⟩
    have em : ν1.1 27 1 (284 + 6 * cnt + g) = ix 2 a := (a5.1 _ _ _ (by omega)).trans wI_same
    refine io_upd i hc (Nat.le_of_lt (tk_lt h.1 a1)) fc hg hn (fun a ha => by rw [a5.1 _ _ _ (by omega), wI_o (by omega)]) (fun a _ _ => funext fun q => by rw [a5.1 _ _ _ (by omega), wI_o (by omega)]) (by rw [a5.1 _ _ _ (by omega), wI_o (by omega)]) (fun P hP => ⟨a, al, a3, (if_pos rfl).trans em, wR_same, P, μ1.2.1 9 j, ?_, fun i hi => if_neg hi, fun i hi => wR_o (by omega)⟩)
    show R _ _ (μ1.1 9 j) _
    rw [s4.2, show μ1.1 9 j = μ.1 9 j from funext fun q => s4.1 _ _ _ (by omega)]
    exact hP
  · subst a1
    exact ⟨(), _, ν1, by show bnd _ _ = _; rw [s1, bnd_some, ckB_ok (by decide)], s2, fci_trans (fci_p s4) (fci_r (by decide)), fmi_p a3, fn_p a3, Or.inl ⟨pb_c a2 (fun κ a q z => rfl) (funext fun q => wR_o (by omega)), rfl⟩⟩
