/-! PARSING: which setting; one setting read by both -/
theorem bnd_as {α β : Type} {o : Option (α × Mem)} {f : α → Mem → Option (β × Mem)} {γ : Type} {g : β → Mem → Option (γ × Mem)} : bnd (bnd o f) g = bnd o (fun a μ => bnd (f a μ) g) := by cases o <;> rfl
theorem is_p {T0 : Md → Nat → Int32} {N n i0 e j z t : Nat} {c : Nat → Int32} {M : Md} {μ μ' ν ν' : Mem} (h : IS N n c i0 e j T0 z M t μ ν) (f : FPc μ μ') (g : FPm ν ν') : IS N n c i0 e j T0 z M t μ' ν' := by
  obtain ⟨h1, m, h2, h3, h4, h5, h6⟩ := h
  have same : ∀ κ a, ¬ (κ = 26 ∧ a = 0) → ν'.1 κ a = ν.1 κ a := fun κ a z => funext fun k => g.1 κ a k (by omega)
  refine ⟨lc_c h1 (fun κ a q z => f.1 κ a q (by omega)), m, h2, ?_, nm_congr h4 (fun e' he' hx => by rw [same 27 1 (by omega)]; exact hx) (fun a _ _ => same _ _ (by omega)) (g.1 26 0 39 (by omega)), by rw [same 27 1 (by omega)]; exact h5, fun a ha => by rw [tt_congr (same 27 1 (by omega)) (same 28 12 (by omega)) (same 28 10 (by omega)) (g.1 26 0 39 (by omega))]; exact h6 a ha⟩
  rw [show μ'.1 8 j = μ.1 8 j from funext fun k => f.1 8 j k (by omega), tt_congr (same 27 1 (by omega)) (same 28 12 (by omega)) (same 28 10 (by omega)) (g.1 26 0 39 (by omega))]
  exact h3
theorem pg_mix {N n t t' : Nat} {c : Nat → Int32} {μ μ' ν ν' : Mem} (h : PG N n c t μ ν) (h' : PG N n c t' μ' ν') : PG N n c t' (wI μ 2 0 6 (nI t')) ν' := by
  obtain ⟨hT, ⟨c1, c2, c3, c4, c5, c6⟩, h6, h7, -, -, -⟩ := h
  refine ⟨hT, ⟨(wI_o (by omega)).trans c1, fun q hq => ?_, (wI_o (by omega)).trans c3, (wI_o (by omega)).trans c4, c5, (funext fun k => wI_o (by omega)).trans c6.1, fun w => (wI_o (by omega)).trans (c6.2 ((wI_o (by omega)).symm.trans w))⟩, wI_same, (wI_o (by omega)).trans h7, h'.2.2.2.2.1, h'.2.2.2.2.2.1, h'.2.2.2.2.2.2⟩
  obtain ⟨a1, a2, a3, a4⟩ := c2 q hq
  exact ⟨(wI_o (by omega)).trans a1, (wI_o (by omega)).trans a2, (wI_o (by omega)).trans a3, a4⟩
/-- both go over a token first -/
theorem j2_word {β : Type} {N n : Nat} {c : Nat → Int32} {M0 M1 : Md} {F F' : Mem → Option (Unit × Mem)} {FM : Option (β × Mem)} {t : Nat} {μ ν ν1 : Mem} {I I1 : Md → Nat → Mem → Mem → Prop} {I' : Md → Nat → β → Mem → Mem → Prop} {Fc Fm : Mem → Mem → Prop} {bv : β}
    (tc : ∀ a b d, Fc a b → Fc b d → Fc a d) (tm : ∀ a b d, Fm a b → Fm b d → Fm a d) (hF : ∀ μx, PG N n c t μx ν → F μx = F' (wI μx 2 0 6 (nI (t + 1)))) (hg : PG N n c t μ ν) (hg1 : PG N n c (t + 1) (wI μ 2 0 6 (nI (t + 1))) ν1)
    (hI : ∀ M μx, I M t μx ν → I1 M (t + 1) (wI μx 2 0 6 (nI (t + 1))) ν1) (hfc : ∀ μx : Mem, Fc μx (wI μx 2 0 6 (nI (t + 1)))) (hfm : Fm ν ν1) (hfn : FN ν ν1)
    (h : J2 N n c M0 M1 F' FM (t + 1) (wI μ 2 0 6 (nI (t + 1))) ν1 I1 I' Fc Fm bv) : J2 N n c M0 M1 F FM t μ ν I I' Fc Fm bv := by
  obtain ⟨b, μ', ν', s1, s2, s3, s4, s5, s6⟩ := h
  refine ⟨b, μ', ν', (hF μ hg).trans s1, s2, tc _ _ _ (hfc μ) s3, tm _ _ _ hfm s4, fn_trans hfn s5, ?_⟩
  rcases s6 with s6 | ⟨t', s6, s7, s8, s9⟩
  · exact Or.inl s6
  · refine Or.inr ⟨t', by omega, s7, s8, fun μ2 g2 i2 => ?_⟩
    obtain ⟨μ2', q1, q2, q3⟩ := s9 _ (pg_mix g2 hg1) (hI M1 μ2 i2)
    exact ⟨μ2', (hF μ2 g2).trans q1, tc _ _ _ (hfc μ2) q2, q3⟩
theorem j2_fin {N n : Nat} {c : Nat → Int32} {M0 M1 : Md} {F : Mem → Option (Unit × Mem)} {FM : Option (Unit × Mem)} {t : Nat} {μ ν : Mem} {I : Md → Nat → Mem → Mem → Prop} {I' : Md → Nat → Mem → Mem → Prop} {Fc Fm : Mem → Mem → Prop}
    (h : J2 N n c M0 M1 F FM t μ ν I (fun M t' _ μ' ν' => I' M t' μ' ν') Fc Fm ()) : J2 N n c M0 M1 F (bnd FM fun _ ν1 => fin ν1) t μ ν I (fun M t' b μ' ν' => b = 1 ∧ I' M t' μ' ν') Fc Fm 0 := by
  obtain ⟨b, μ', ν', s1, s2, s3, s4, s5, s6⟩ := h
  rcases s6 with ⟨s6, -⟩ | ⟨t', s6, s7, s8, s9⟩
  · exact ⟨0, μ', ν', s1, by rw [s2, bnd_some, fin_b s6], s3, s4, s5, Or.inl ⟨s6, rfl⟩⟩
  · refine ⟨1, μ', ν', s1, by rw [s2, bnd_some, fin_g s7], s3, s4, s5, Or.inr ⟨t', s6, s7, ⟨rfl, s8⟩, fun μ2 g2 i2 => ?_⟩⟩
    obtain ⟨μ2', q1, q2, q3⟩ := s9 μ2 g2 i2
    rcases q3 with ⟨q3, q4⟩ | q3
    · exact ⟨μ2', q1, q2, Or.inl ⟨q3, rfl, q4⟩⟩
    · exact ⟨μ2', q1, q2, Or.inr q3⟩
theorem j2_pp {β : Type} {N n : Nat} {c : Nat → Int32} {M0 M1 : Md} {F : Mem → Option (Unit × Mem)} {FM : Option (β × Mem)} {t : Nat} {μ ν : Mem} {I I0 : Md → Nat → Mem → Mem → Prop} {I' I'' : Md → Nat → β → Mem → Mem → Prop} {Fc Fm : Mem → Mem → Prop} {bv : β}
    (hi : ∀ M μx, I0 M t μx ν → I M t μx ν) (hp : ∀ M t' b μ' ν', t ≤ t' → I' M t' b μ' ν' → I'' M t' b μ' ν') (h : J2 N n c M0 M1 F FM t μ ν I I' Fc Fm bv) : J2 N n c M0 M1 F FM t μ ν I0 I'' Fc Fm bv := by
  obtain ⟨b, μ', ν', s1, s2, s3, s4, s5, s6⟩ := h
  refine ⟨b, μ', ν', s1, s2, s3, s4, s5, ?_⟩
  rcases s6 with s6 | ⟨t', s6, s7, s8, s9⟩
  · exact Or.inl s6
  · refine Or.inr ⟨t', s6, s7, hp _ _ _ _ _ s6 s8, fun μ2 g2 i2 => ?_⟩
    obtain ⟨μ2', q1, q2, q3⟩ := s9 μ2 g2 (hi _ _ i2)
    refine ⟨μ2', q1, q2, ?_⟩
    rcases q3 with ⟨q3, q4⟩ | q3
    · exact Or.inl ⟨q3, hp _ _ _ _ _ s6 q4⟩
    · exact Or.inr q3
/-- the wrap: two names -/
theorem set_wrap {T0 : Md → Nat → Int32} {N n t i0 e j : Nat} {c : Nat → Int32} {M0 M1 : Md} {μ ν : Mem} (h : PG N n c t μ ν) (hI : IS N n c i0 e j T0 4 M0 t μ ν) (hM0 : MV M0) (hM1 : MV M1) (h0 : ∀ x, M0.1 x = some 0) (he : e < 4) (fu : Nat) :
    J2 N n c M0 M1 (fun μ => bnd (fX5_takeName (fu + 1001) 0 μ) fun x μ1 => bnd (fX5_takeName (fu + 1001) 0 (wI μ1 8 j 2 x)) fun y μ2 => some ((), wI μ2 8 j 3 y))
      (bnd (fX13_readName (fu + 1001) 0 (nI (476 + 21 * e + 3)) ν) fun _ ν1 => bnd (fX13_readName (fu + 1001) 0 (nI (476 + 21 * e + 4)) ν1) fun _ ν2 => fin ν2) t μ ν (IS N n c i0 e j T0 4) (fun M t' b μ' ν' => b = 1 ∧ IS N n c i0 e j T0 0 M t' μ' ν') (FcE j) (FmE e) 0 := by
  have a := j2_pp (I0 := IS N n c i0 e j T0 4) (I'' := fun M t' _ μ' ν' => IS N n c i0 e j T0 2 M t' μ' ν') (fun _ _ w => w) (fun _ _ _ _ _ _ w => w.1) (set_name (z := 2) (f := 2) (g := 3) (i := 4) h hI hM0 hM1 h0 he (Or.inr (Or.inr ⟨rfl, rfl, rfl⟩)) fu)
  have := j2_seq (Fc := FcE j) (Fm := FmE e) (F2 := fun μ1 => bnd (fX5_takeName (fu + 1001) 0 μ1) fun y μ2 => some ((), wI μ2 8 j 3 y)) (FM2 := fun _ ν1 => bnd (fX13_readName (fu + 1001) 0 (nI (476 + 21 * e + 4)) ν1) fun _ ν2 => fin ν2) (I2 := fun M t' b μ' ν' => b = (1 : Int32) ∧ IS N n c i0 e j T0 0 M t' μ' ν') (cv := 0)
    (fun _ _ _ => fce_trans) (fun _ _ _ => fme_trans) a
    (fun t' _ μ' ν' _ _ _ g i => j2_fin (j2_pp (fun _ _ w => w) (fun _ _ _ _ _ _ w => w.1) (set_name (z := 0) (f := 3) (g := 4) (i := 3) g i hM0 hM1 h0 he (Or.inr (Or.inl ⟨rfl, rfl, rfl⟩)) fu)))
    (fun μ0 μ' _ _ d => ⟨wI μ' 8 j 3 0, by show bnd _ _ = _; rw [d_name d, bnd_some], fce_w, kt_w⟩)
    (fun μ' ν' _ b => ⟨ν', by show bnd _ _ = _; rw [b_name b (fu + 1000), bnd_some, fin_b b], fme_rfl, fn_rfl, fun _ _ _ => rfl⟩)
  simp only [bnd_as, bnd_some] at this
  exact this
/-! the model's words -/
theorem no_acc {N n t : Nat} {c : Nat → Int32} {μ ν : Mem} (h : PG N n c t μ ν) (r i : Nat) (hr : r < 74 ∧ syT.getD r 0 = i ∧ 0 < txN.getD i 0 ∧ tkL (txC i 0) = true) (q : syA N n c t ≠ r) (fu : Nat) : fX13_accept (fu + 1001) 0 i ν = some (0, ν) ∧ fX13_isWord (fu + 1001) 0 i ν = some (0, ν) := by
  obtain ⟨r1, rfl, r3, r4⟩ := hr
  constructor
  · obtain ⟨μ', ν', v, s1, s2, s3, s4, s5⟩ := p_accept h r1 r3 r4 fu
    rcases s3 with ⟨a, -⟩ | ⟨-, rfl, -, rfl⟩
    · exact absurd a q
    · exact s2
  · have ew : fX13_isWord (fu + 1001) 0 (syT.getD r 0) ν = _ := p_word h r1 r3 r4 (fu + 987)
    rw [ew, if_neg q]
theorem yes_acc {N n t : Nat} {c : Nat → Int32} {μ ν : Mem} (h : PG N n c t μ ν) (r i : Nat) (hr : r < 74 ∧ syT.getD r 0 = i ∧ 0 < txN.getD i 0 ∧ tkL (txC i 0) = true) (q : syA N n c t = r) (fu : Nat) : fX13_isWord (fu + 1001) 0 i ν = some (1, ν) ∧ ∃ ν1, fX13_accept (fu + 1001) 0 i ν = some (1, ν1) ∧ fX13_scan (fu + 1001) 0 ν = some ((), ν1) ∧ t < n ∧ PG N n c (t + 1) (wI μ 2 0 6 (nI (t + 1))) ν1 ∧ FPm ν ν1 := by
  obtain ⟨r1, rfl, r3, r4⟩ := hr
  have ew : fX13_isWord (fu + 1001) 0 (syT.getD r 0) ν = _ := p_word h r1 r3 r4 (fu + 987)
  rw [if_pos q] at ew
  have g : t < n := Classical.byContradiction fun z => syA_1 r3 z q
  obtain ⟨ν1, s1, s2, s3⟩ := p_next h g fu
  refine ⟨ew, ν1, ?_, s1, g, s2, fpm_fw s3⟩
  unfold fX13_accept
  simp only [jn_eq]
  rw [ew, bnd_some, if_neg (show ¬ (1 : Int32) = 0 by decide), s1, bnd_some, ckZ_ok (Or.inr rfl)]
theorem fin_eq : (fun (μ1 : Mem) => if ¬ μ1.1 26 0 26 = 0 then ckZ 0 (some ((0 : Int32), μ1)) else ckZ 1 (some ((1 : Int32), μ1))) = fin := by
  funext μ1
  unfold fin
  rw [ckZ_ok (Or.inl rfl), ckZ_ok (Or.inr rfl)]
