/-! PARSING: one setting read by both -/
theorem role2 : ∀ r, r < 74 → ¬ syR.getD r 0 &&& 2 = 0 → 17 ≤ r ∧ r ≤ 29 := by decide
theorem sy_len {N n t r : Nat} {c : Nat → Int32} (q : syA N n c t = r) (hr : r < 74) (h0 : 0 < txN.getD (syT.getD r 0) 0) (hL : tkL (txC (syT.getD r 0) 0) = true) : tkP c N t + txN.getD (syT.getD r 0) 0 ≤ tkP c N (t + 1) := by
  have g : t < n := Classical.byContradiction fun z => syA_1 h0 z q
  unfold syA at q
  rw [if_pos g] at q
  have w := ((tkY_word hr h0 hL).1 q).2
  unfold wdE at w
  rw [Bool.and_eq_true] at w
  have := of_decide_eq_true w.1
  have := tk_next (c := c) (N := N) (t := t)
  omega
theorem j2_post {β : Type} {N n : Nat} {c : Nat → Int32} {M0 M1 : Md} {F : Mem → Option (Unit × Mem)} {FM : Option (β × Mem)} {t : Nat} {μ ν : Mem} {I : Md → Nat → Mem → Mem → Prop} {I' I'' : Md → Nat → β → Mem → Mem → Prop} {Fc Fm : Mem → Mem → Prop} {bv : β}
    (hp : ∀ M t' b μ' ν', t ≤ t' → I' M t' b μ' ν' → I'' M t' b μ' ν') (h : J2 N n c M0 M1 F FM t μ ν I I' Fc Fm bv) : J2 N n c M0 M1 F FM t μ ν I I'' Fc Fm bv := by
  obtain ⟨b, μ', ν', s1, s2, s3, s4, s5, s6⟩ := h
  refine ⟨b, μ', ν', s1, s2, s3, s4, s5, ?_⟩
  rcases s6 with s6 | ⟨t', s6, s7, s8, s9⟩
  · exact Or.inl s6
  · refine Or.inr ⟨t', s6, s7, hp _ _ _ _ _ s6 s8, fun μ2 g2 i2 => ?_⟩
    obtain ⟨μ2', q1, q2, q3⟩ := s9 μ2 g2 i2
    refine ⟨μ2', q1, q2, ?_⟩
    rcases q3 with ⟨q3, q4⟩ | q3
    · exact Or.inl ⟨q3, hp _ _ _ _ _ s6 q4⟩
    · exact Or.inr q3
theorem p_setting {T0 : Md → Nat → Int32} {N n t i0 e j : Nat} {c : Nat → Int32} {M0 M1 : Md} {μ ν : Mem} (h : PG N n c t μ ν) (hI : IS N n c i0 e j T0 0 M0 t μ ν) (hM0 : MV M0) (hM1 : MV M1) (h0 : ∀ x, M0.1 x = some 0) (he : e < 4) (hi0 : i0 ≤ 32) (hr : ¬ syR.getD (syA N n c t) 0 &&& 2 = 0) (fu : Nat) :
    J2 N n c M0 M1 (fun μ => bnd (fX11_takeRole 0 2 μ) fun a μ1 => ckB a 74 (fX5_readSetting (fu + 1001) 0 j a μ1)) (fX13_readSetting (fu + 1001) 0 (nI (476 + 21 * e)) ν) t μ ν (IS N n c i0 e j T0 0) (fun M t' b μ' ν' => b = 1 ∧ t < t' ∧ IS N n c i0 e j T0 0 M t' μ' ν') (FcE j) (FmE e) 0 := by
  have rr := role2 _ syA_lt hr
  have hs : ∀ μx, PG N n c t μx ν → ∀ r, syA N n c t = r → bnd (fX11_takeRole 0 2 μx) (fun a μ1 => ckB a 74 (fX5_readSetting (fu + 1001) 0 j a μ1)) = fX5_readSetting (fu + 1001) 0 j r (wI μx 2 0 6 (nI (t + 1))) := fun μx gx r q => by
    rw [c_takeRole (Nat.le_trans gx.1.1 gx.1.2.1) gx.2.1 gx.2.2.2.2.2.1.2.1 gx.2.2.1 hr, bnd_some, q, ckB_ok (by rw [← q]; exact syA_lt)]
  have cases : syA N n c t = 17 ∨ syA N n c t = 18 ∨ syA N n c t = 19 ∨ syA N n c t = 20 ∨ syA N n c t = 21 ∨ syA N n c t = 22 ∨ syA N n c t = 23 ∨ syA N n c t = 24 ∨ syA N n c t = 25 ∨ syA N n c t = 26 ∨ syA N n c t = 27 ∨ syA N n c t = 28 ∨ syA N n c t = 29 := by omega
  have stp : t < n → tkP c N t + 0 ≤ tkP c N (t + 1) + 0 := fun g => Nat.le_of_lt (tk_lt h.1 g)
  rcases cases with q | q | q | q | q | q | q | q | q | q | q | q | q
  · obtain ⟨yw, ν1, ya, ys, g, g1, fp⟩ := yes_acc h 17 35 (by decide) q fu
    rw [ms_17 h he q fu yw ya ys]
    refine j2_word (F' := fun μ => fX5_readSetting (fu + 1001) 0 j 17 μ) (I1 := IS N n c i0 e j T0 0) (fun _ _ _ => fce_trans) (fun _ _ _ => fme_trans) (fun μx gx => hs μx gx _ q) h g1 (fun M μx i => is_z (is_p i fpc_6 fp) (stp g)) (fun μx => fce_p fpc_6) (fme_p fp) (fn_p fp) ?_
    simp only [cs_17]
    exact j2_post (fun M t' b μ' ν' l i => ⟨i.1, by omega, i.2⟩) (j2_of (fun M μ _ g i => set_clock g i he hi0 fu) g1 (is_z (is_p hI fpc_6 fp) (stp g)))
  · obtain ⟨yw, ν1, ya, ys, g, g1, fp⟩ := yes_acc h 18 36 (by decide) q fu
    rw [ms_18 h he q fu yw ya ys]
    refine j2_word (F' := fun μ => fX5_readSetting (fu + 1001) 0 j 18 μ) (I1 := IS N n c i0 e j T0 4) (fun _ _ _ => fce_trans) (fun _ _ _ => fme_trans) (fun μx gx => hs μx gx _ q) h g1 (fun M μx i => is_z (is_p i fpc_6 fp) (sy_len q (by decide) (by decide) (by decide))) (fun μx => fce_p fpc_6) (fme_p fp) (fn_p fp) ?_
    simp only [cs_18]
    exact j2_post (fun M t' b μ' ν' l i => ⟨i.1, by omega, i.2⟩) (set_wrap g1 (is_z (is_p hI fpc_6 fp) (sy_len q (by decide) (by decide) (by decide))) hM0 hM1 h0 he fu)
  · obtain ⟨yw, ν1, ya, ys, g, g1, fp⟩ := yes_acc h 19 37 (by decide) q fu
    rw [ms_19 h he q fu yw ya ys]
    refine j2_word (F' := fun μ => fX5_readSetting (fu + 1001) 0 j 19 μ) (I1 := IS N n c i0 e j T0 0) (fun _ _ _ => fce_trans) (fun _ _ _ => fme_trans) (fun μx gx => hs μx gx _ q) h g1 (fun M μx i => is_z (is_p i fpc_6 fp) (stp g)) (fun μx => fce_p fpc_6) (fme_p fp) (fn_p fp) ?_
    simp only [cs_19]
    exact j2_post (fun M t' b μ' ν' l i => ⟨i.1, by omega, i.2⟩) (j2_of (fun M μ _ g i => set_grp (mx := 16) (i := 5) (f := 5) g i he hi0 (by decide) (by decide) (Or.inl ⟨rfl, rfl⟩) fu) g1 (is_z (is_p hI fpc_6 fp) (stp g)))
  · obtain ⟨yw, ν1, ya, ys, g, g1, fp⟩ := yes_acc h 20 38 (by decide) q fu
    rw [ms_20 h he q fu yw ya ys]
    refine j2_word (F' := fun μ => fX5_readSetting (fu + 1001) 0 j 20 μ) (I1 := IS N n c i0 e j T0 0) (fun _ _ _ => fce_trans) (fun _ _ _ => fme_trans) (fun μx gx => hs μx gx _ q) h g1 (fun M μx i => is_z (is_p i fpc_6 fp) (stp g)) (fun μx => fce_p fpc_6) (fme_p fp) (fn_p fp) ?_
    simp only [cs_20]
    exact j2_post (fun M t' b μ' ν' l i => ⟨i.1, by omega, i.2⟩) (j2_of (fun M μ _ g i => set_grp (mx := 5) (i := 6) (f := 7) g i he hi0 (by decide) (by decide) (Or.inr (Or.inl ⟨rfl, rfl⟩)) fu) g1 (is_z (is_p hI fpc_6 fp) (stp g)))
  · obtain ⟨yw, ν1, ya, ys, g, g1, fp⟩ := yes_acc h 21 39 (by decide) q fu
    rw [ms_21 h he q fu yw ya ys]
    refine j2_word (F' := fun μ => fX5_readSetting (fu + 1001) 0 j 21 μ) (I1 := IS N n c i0 e j T0 0) (fun _ _ _ => fce_trans) (fun _ _ _ => fme_trans) (fun μx gx => hs μx gx _ q) h g1 (fun M μx i => is_z (is_p i fpc_6 fp) (stp g)) (fun μx => fce_p fpc_6) (fme_p fp) (fn_p fp) ?_
    simp only [cs_21]
    exact j2_post (fun M t' b μ' ν' l i => ⟨i.1, by omega, i.2⟩) (j2_of (fun M μ _ g i => set_grp (mx := 4) (i := 7) (f := 9) g i he hi0 (by decide) (by decide) (Or.inr (Or.inr ⟨rfl, rfl⟩)) fu) g1 (is_z (is_p hI fpc_6 fp) (stp g)))
  · obtain ⟨yw, ν1, ya, ys, g, g1, fp⟩ := yes_acc h 22 40 (by decide) q fu
    rw [ms_22 h he q fu yw ya ys]
    refine j2_word (F' := fun μ => fX5_readSetting (fu + 1001) 0 j 22 μ) (I1 := IS N n c i0 e j T0 0) (fun _ _ _ => fce_trans) (fun _ _ _ => fme_trans) (fun μx gx => hs μx gx _ q) h g1 (fun M μx i => is_z (is_p i fpc_6 fp) (stp g)) (fun μx => fce_p fpc_6) (fme_p fp) (fn_p fp) ?_
    simp only [cs_22]
    exact j2_post (fun M t' b μ' ν' l i => ⟨i.1, by omega, i.2⟩) (j2_of (fun M μ _ g i => set_one (lo := 0) (hi := 15) (f := 11) (g := 11) (i := 8) g i he hi0 (by decide) (by decide) (by decide) (by decide) (by decide) (by decide) (by decide) (fun m S k k1 k2 k3 k4 => ⟨k, by omega, k3, k4⟩) fu) g1 (is_z (is_p hI fpc_6 fp) (stp g)))
  · obtain ⟨yw, ν1, ya, ys, g, g1, fp⟩ := yes_acc h 23 41 (by decide) q fu
    rw [ms_23 h he q fu yw ya ys]
    refine j2_word (F' := fun μ => fX5_readSetting (fu + 1001) 0 j 23 μ) (I1 := IS N n c i0 e j T0 0) (fun _ _ _ => fce_trans) (fun _ _ _ => fme_trans) (fun μx gx => hs μx gx _ q) h g1 (fun M μx i => is_z (is_p i fpc_6 fp) (stp g)) (fun μx => fce_p fpc_6) (fme_p fp) (fn_p fp) ?_
    simp only [cs_23]
    exact j2_post (fun M t' b μ' ν' l i => ⟨i.1, by omega, i.2⟩) (j2_of (fun M μ _ g i => set_one (lo := 0) (hi := 15) (f := 12) (g := 12) (i := 9) g i he hi0 (by decide) (by decide) (by decide) (by decide) (by decide) (by decide) (by decide) (fun m S k k1 k2 k3 k4 => ⟨k, by omega, k3, k4⟩) fu) g1 (is_z (is_p hI fpc_6 fp) (stp g)))
  · obtain ⟨yw, ν1, ya, ys, g, g1, fp⟩ := yes_acc h 24 42 (by decide) q fu
    rw [ms_24 h he q fu yw ya ys]
    refine j2_word (F' := fun μ => fX5_readSetting (fu + 1001) 0 j 24 μ) (I1 := IS N n c i0 e j T0 0) (fun _ _ _ => fce_trans) (fun _ _ _ => fme_trans) (fun μx gx => hs μx gx _ q) h g1 (fun M μx i => is_z (is_p i fpc_6 fp) (stp g)) (fun μx => fce_p fpc_6) (fme_p fp) (fn_p fp) ?_
    simp only [cs_24]
    exact j2_post (fun M t' b μ' ν' l i => ⟨i.1, by omega, i.2⟩) (j2_of (fun M μ _ g i => set_flag (i := 10) g i he hi0 (Or.inl ⟨rfl, rfl, rfl⟩)) g1 (is_z (is_p hI fpc_6 fp) (stp g)))
  · obtain ⟨yw, ν1, ya, ys, g, g1, fp⟩ := yes_acc h 25 43 (by decide) q fu
    rw [ms_25 h he q fu yw ya ys]
    refine j2_word (F' := fun μ => fX5_readSetting (fu + 1001) 0 j 25 μ) (I1 := IS N n c i0 e j T0 0) (fun _ _ _ => fce_trans) (fun _ _ _ => fme_trans) (fun μx gx => hs μx gx _ q) h g1 (fun M μx i => is_z (is_p i fpc_6 fp) (stp g)) (fun μx => fce_p fpc_6) (fme_p fp) (fn_p fp) ?_
    simp only [cs_25]
    exact j2_post (fun M t' b μ' ν' l i => ⟨i.1, by omega, i.2⟩) (j2_of (fun M μ _ g i => set_flag (i := 11) g i he hi0 (Or.inr ⟨rfl, rfl, rfl⟩)) g1 (is_z (is_p hI fpc_6 fp) (stp g)))
  · obtain ⟨yw, ν1, ya, ys, g, g1, fp⟩ := yes_acc h 26 44 (by decide) q fu
    rw [ms_26 h he q fu yw ya ys]
    refine j2_word (F' := fun μ => fX5_readSetting (fu + 1001) 0 j 26 μ) (I1 := IS N n c i0 e j T0 0) (fun _ _ _ => fce_trans) (fun _ _ _ => fme_trans) (fun μx gx => hs μx gx _ q) h g1 (fun M μx i => is_z (is_p i fpc_6 fp) (stp g)) (fun μx => fce_p fpc_6) (fme_p fp) (fn_p fp) ?_
    simp only [cs_26]
    exact j2_post (fun M t' b μ' ν' l i => ⟨i.1, by omega, i.2⟩) (j2_of (fun M μ _ g i => set_lim (i1 := 12) (i2 := 14) g i he hi0 (Or.inl ⟨rfl, rfl, rfl, rfl, rfl⟩) fu) g1 (is_z (is_p hI fpc_6 fp) (stp g)))
  · obtain ⟨yw, ν1, ya, ys, g, g1, fp⟩ := yes_acc h 27 45 (by decide) q fu
    rw [ms_27 h he q fu yw ya ys]
    refine j2_word (F' := fun μ => fX5_readSetting (fu + 1001) 0 j 27 μ) (I1 := IS N n c i0 e j T0 0) (fun _ _ _ => fce_trans) (fun _ _ _ => fme_trans) (fun μx gx => hs μx gx _ q) h g1 (fun M μx i => is_z (is_p i fpc_6 fp) (stp g)) (fun μx => fce_p fpc_6) (fme_p fp) (fn_p fp) ?_
    simp only [cs_27]
    exact j2_post (fun M t' b μ' ν' l i => ⟨i.1, by omega, i.2⟩) (j2_of (fun M μ _ g i => set_lim (i1 := 13) (i2 := 15) g i he hi0 (Or.inr ⟨rfl, rfl, rfl, rfl, rfl⟩) fu) g1 (is_z (is_p hI fpc_6 fp) (stp g)))
  · obtain ⟨yw, ν1, ya, ys, g, g1, fp⟩ := yes_acc h 28 46 (by decide) q fu
    rw [ms_28 h he q fu yw ya ys]
    refine j2_word (F' := fun μ => fX5_readSetting (fu + 1001) 0 j 28 μ) (I1 := IS N n c i0 e j T0 0) (fun _ _ _ => fce_trans) (fun _ _ _ => fme_trans) (fun μx gx => hs μx gx _ q) h g1 (fun M μx i => is_z (is_p i fpc_6 fp) (stp g)) (fun μx => fce_p fpc_6) (fme_p fp) (fn_p fp) ?_
    simp only [cs_28]
    exact j2_post (fun M t' b μ' ν' l i => ⟨i.1, by omega, i.2⟩) (j2_of (fun M μ _ g i => set_room (r := 8) g i he hi0 (by decide)) g1 (is_z (is_p hI fpc_6 fp) (stp g)))
  · obtain ⟨yw, ν1, ya, ys, g, g1, fp⟩ := yes_acc h 29 47 (by decide) q fu
    rw [ms_29 h he q fu yw ya ys]
    refine j2_word (F' := fun μ => fX5_readSetting (fu + 1001) 0 j 29 μ) (I1 := IS N n c i0 e j T0 0) (fun _ _ _ => fce_trans) (fun _ _ _ => fme_trans) (fun μx gx => hs μx gx _ q) h g1 (fun M μx i => is_z (is_p i fpc_6 fp) (stp g)) (fun μx => fce_p fpc_6) (fme_p fp) (fn_p fp) ?_
    simp only [cs_29]
    exact j2_post (fun M t' b μ' ν' l i => ⟨i.1, by omega, i.2⟩) (j2_of (fun M μ _ g i => set_room (r := 0) g i he hi0 (by decide)) g1 (is_z (is_p hI fpc_6 fp) (stp g)))
