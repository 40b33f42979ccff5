/-! PARSING: flags, rooms; the names of wrap -/
theorem set_flag {T0 : Md → Nat → Int32} {N n t i0 e j f g i : Nat} {c : Nat → Int32} {M : Md} {μ ν : Mem} (h : PG N n c t μ ν) (hI : IS N n c i0 e j T0 0 M t μ ν) (he : e < 4) (hi0 : i0 ≤ 32) (hi : f = 13 ∧ g = 13 ∧ i = 10 ∨ f = 14 ∧ g = 14 ∧ i = 11) :
    P2 N n c (fun μ => some ((), wI μ 8 j f 1)) (some ((1 : Int32), wI ν 27 1 (476 + 21 * e + g) 1)) t μ ν (fun t' b μ' ν' => b = 1 ∧ IS N n c i0 e j T0 0 M t' μ' ν') (FcE j) (FmE e) 0 := by
  obtain ⟨hL, m, hz, hE⟩ := hI
  refine ⟨1, _, _, rfl, rfl, fce_w, fme_w (by omega), fn_w, Or.inr ⟨t, Nat.le_refl t, pg_m (pg_c h (fun κ a q z => wI_o (by omega)) rfl) (fun q _ _ => wI_o (by omega)) (funext fun k => wI_o (by omega)), rfl, lc_c hL (fun κ a q z => wI_o (by omega)), m, hz, ?_⟩⟩
  refine es_upd hE he hi0 i (by omega) (by omega) (fun k k1 k2 => ?_) (fun a ha => ?_) (fun a _ _ => ?_) ?_ ?_
  · exact wI_o (fun z => k2 (by rw [z.2.2]; rcases hi with ⟨rfl, rfl, rfl⟩ | ⟨rfl, rfl, rfl⟩ <;> decide))
  · exact wI_o (fun z => ha g (by omega) (by rcases hi with ⟨rfl, rfl, rfl⟩ | ⟨rfl, rfl, rfl⟩ <;> decide) z.2.2)
  · funext q; exact wI_o (by omega)
  · exact wI_o (by omega)
  · rcases hi with ⟨rfl, rfl, rfl⟩ | ⟨rfl, rfl, rfl⟩
    · exact ⟨wI_same.trans wI_same.symm, Or.inr wI_same⟩
    · exact ⟨wI_same.trans wI_same.symm, Or.inr wI_same⟩
theorem set_room {T0 : Md → Nat → Int32} {N n t i0 e j r : Nat} {c : Nat → Int32} {M : Md} {μ ν : Mem} (h : PG N n c t μ ν) (hI : IS N n c i0 e j T0 0 M t μ ν) (he : e < 4) (hi0 : i0 ≤ 32) (hr : r ≤ 8) :
    P2 N n c (fun μ => some ((), wI μ 8 j 19 (nI r))) (bnd (some ((), wI (wI ν 27 1 (476 + 21 * e + 19) (nI r)) 27 1 (476 + 21 * e + 20) (8 - nI r))) fun _ ν1 => fin ν1) t μ ν (fun t' b μ' ν' => b = 1 ∧ IS N n c i0 e j T0 0 M t' μ' ν') (FcE j) (FmE e) 0 := by
  obtain ⟨hL, m, hz, hE⟩ := hI
  have ev : (8 : Int32) - nI r = nI (8 - r) := pk_sub (a := 8) hr
  rw [ev, bnd_some]
  have g1 : PG N n c t (wI μ 8 j 19 (nI r)) (wI (wI ν 27 1 (476 + 21 * e + 19) (nI r)) 27 1 (476 + 21 * e + 20) (nI (8 - r))) := pg_m (pg_c h (fun κ a q z => wI_o (by omega)) rfl) (fun q _ _ => by rw [wI_o (by omega), wI_o (by omega)]) (funext fun k => by rw [wI_o (by omega), wI_o (by omega)])
  refine ⟨1, _, _, rfl, fin_g g1, fce_w, fme_trans (fme_w (by omega)) (fme_w (by omega)), fn_trans fn_w fn_w, Or.inr ⟨t, Nat.le_refl t, g1, rfl, lc_c hL (fun κ a q z => wI_o (by omega)), m, hz, ?_⟩⟩
  refine es_upd hE he hi0 16 (by omega) (by omega) (fun k k1 k2 => ?_) (fun a ha => ?_) (fun a _ _ => ?_) ?_ ?_
  · exact wI_o (fun z => k2 (by rw [z.2.2]; decide))
  · rw [wI_o (fun z => ha 20 (by omega) (by decide) z.2.2), wI_o (fun z => ha 19 (by omega) (by decide) z.2.2)]
  · funext q; rw [wI_o (by omega), wI_o (by omega)]
  · rw [wI_o (by omega), wI_o (by omega)]
  · exact ⟨r, hr, (wI_o (by omega)).trans wI_same, wI_same, wI_same⟩
/-- a name for a field of the setup -/
theorem set_name {T0 : Md → Nat → Int32} {N n t i0 e j f g i z : Nat} {c : Nat → Int32} {M0 M1 : Md} {μ ν : Mem} (h : PG N n c t μ ν) (hI : IS N n c i0 e j T0 (z + 2) M0 t μ ν) (hM0 : MV M0) (hM1 : MV M1) (h0 : ∀ x, M0.1 x = some 0) (he : e < 4) (hi : i = 1 ∧ f = 1 ∧ g = 1 ∨ i = 3 ∧ f = 3 ∧ g = 4 ∨ i = 4 ∧ f = 2 ∧ g = 3) (fu : Nat) :
    J2 N n c M0 M1 (fun μ => bnd (fX5_takeName (fu + 1001) 0 μ) fun x μ1 => some ((), wI μ1 8 j f x)) (fX13_readName (fu + 1001) 0 (nI (476 + 21 * e + g)) ν) t μ ν (IS N n c i0 e j T0 (z + 2)) (fun M t' _ μ' ν' => IS N n c i0 e j T0 z M t' μ' ν' ∧ ∃ x a, M.1 x = some a) (FcE j) (FmE e) () := by
  by_cases q : syA N n c t = 2
  · obtain ⟨l, -⟩ := sy_2 q
    have xl := h.1.2.2.1 t l
    have hN := h.1.2.1
    obtain ⟨hL, m, hz, hE⟩ := hI
    have hm : m < 400 := by omega
    have gx := tk_gt (c := c) xl
    have nx : tkE c N (tkP c N t) ≤ tkP c N (t + 1) := tk_next
    have hg : 476 + 21 * e + g < 700 := by omega
    obtain ⟨ν1, s1, s2, s3⟩ := p_nameM h hE.2.1.1 hm q hg fu
    have n39 := hE.2.1.1
    have fm : FmE e ν ν1 := fme_trans fme_n (fme_p s3)
    have fn : FN ν ν1 := fn_trans (fn_note hm n39) (fn_p s3)
    -- good: for a mode that knows the name
    have good : ∀ M μx a, MV M → PG N n c t μx ν → IS N n c i0 e j T0 (z + 2) M t μx ν → M.1 (tkP c N t) = some a → fX5_takeName (fu + 1001) 0 μx = some (nI a, wI μx 2 0 6 (nI (t + 1))) ∧ FcE j μx (wI (wI μx 2 0 6 (nI (t + 1))) 8 j f (nI a)) ∧ PG N n c (t + 1) (wI (wI μx 2 0 6 (nI (t + 1))) 8 j f (nI a)) ν1 ∧ IS N n c i0 e j T0 z M (t + 1) (wI (wI μx 2 0 6 (nI (t + 1))) 8 j f (nI a)) ν1 := by
      intro M μx a hM hg' ⟨hL', m', hz', hE'⟩ ha
      have ab := hM.2.2 _ a ha
      have mm : m' = m := nI_inj (by have := hE'.2.1.2.1; omega) (by omega) (hE'.2.1.1.symm.trans n39)
      subst mm
      have fc : FcE j μx (wI (wI μx 2 0 6 (nI (t + 1))) 8 j f (nI a)) := fce_trans (fce_p fpc_6) fce_w
      have gg : PG N n c (t + 1) (wI (wI μx 2 0 6 (nI (t + 1))) 8 j f (nI a)) ν1 := by
        obtain ⟨ν1', r1, r2, r3⟩ := p_nameM hg' n39 hm q hg fu
        obtain ⟨-, rfl⟩ := Prod.mk.inj (Option.some.inj (s1.symm.trans r1))
        exact pg_c r2 (fun κ a q z => wI_o (by omega)) rfl
      refine ⟨(p_nameC hg' hL' q fu).1 a ha (by have := hM.2.1; omega), fc, gg, lc_c hL' (fun κ a q z => fc.1 κ a q (by omega) (by omega)), m' + 1, by omega, ?_⟩
      obtain ⟨e1, e2, e3, e4⟩ := hE'
      have nm : NM N c M.1 M.2 i0 (m' + 1) (noteM ν m' (tkP c N t) (tkE c N (tkP c N t) - tkP c N t) (476 + 21 * e + g)) := note_nm e2 hm xl ha ab (Or.inl ⟨e, he, by omega, e3⟩)
      have tt := note_tt (l := tkE c N (tkP c N t) - tkP c N t) (g := 476 + 21 * e + g) e2 hm (by omega) ha (by omega)
      have same : ∀ κ a, ¬ (κ = 26 ∧ a = 0) → ν1.1 κ a = (noteM ν m' (tkP c N t) (tkE c N (tkP c N t) - tkP c N t) (476 + 21 * e + g)).1 κ a := fun κ a z => funext fun k => s3.1 κ a k (by omega)
      have tt' : TT M.1 ν1 = fun q => if q = 476 + 21 * e + g then nI a else TT M.1 ν q := by
        rw [← tt]
        exact tt_congr (same _ _ (by omega)) (same _ _ (by omega)) (same _ _ (by omega)) (s3.1 26 0 39 (by omega))
      refine ⟨qs_upd e1 i (by omega) (fun k k1 k2 => ?_) (fun k k1 k2 => ?_) ?_, nm_congr nm (fun e' he' hx => by rw [same 27 1 (by omega)]; exact hx) (fun a _ _ => same _ _ (by omega)) (s3.1 26 0 39 (by omega)), ?_, fun q hq => by rw [tt']; exact (if_neg (fun z => hq (by omega))).trans (e4 q hq)⟩
      · rw [wI_o (fun z => k2 (by rw [z.2.2]; rcases hi with ⟨rfl, rfl, rfl⟩ | ⟨rfl, rfl, rfl⟩ | ⟨rfl, rfl, rfl⟩ <;> decide))]
        exact wI_o (by omega)
      · rw [tt']
        exact if_neg (fun z => k2 (by rw [show k = g by omega]; rcases hi with ⟨rfl, rfl, rfl⟩ | ⟨rfl, rfl, rfl⟩ | ⟨rfl, rfl, rfl⟩ <;> decide))
      · have et : TT M.1 ν1 (476 + 21 * e + g) = nI a := by rw [tt']; exact if_pos rfl
        rcases hi with ⟨rfl, rfl, rfl⟩ | ⟨rfl, rfl, rfl⟩ | ⟨rfl, rfl, rfl⟩
        · exact ⟨a, ab, et, wI_same⟩
        · exact Or.inr ⟨a, ab, et, wI_same⟩
        · exact ⟨a, ab, et, wI_same⟩
      · rw [same 27 1 (by omega)]; unfold noteM; rw [wI_o (by omega), wI_o (by omega), wI_o (by omega), wI_o (by omega)]; exact e3
    obtain ⟨g1, g2, g3, g4⟩ := good M0 μ 0 hM0 h ⟨hL, m, hz, hE⟩ (h0 _)
    refine ⟨(), _, ν1, by show bnd _ _ = _; rw [g1, bnd_some], s1, g2, fm, fn, Or.inr ⟨t + 1, by omega, g3, ⟨g4, _, _, h0 (tkP c N t)⟩, fun μ2 p2 i2 => ?_⟩⟩
    cases hv : M1.1 (tkP c N t) with
    | some a =>
      obtain ⟨k1, k2, k3, k4⟩ := good M1 μ2 a hM1 p2 i2 hv
      exact ⟨_, by show bnd _ _ = _; rw [k1, bnd_some], k2, Or.inl ⟨k3, k4, _, _, hv⟩⟩
    | none =>
      obtain ⟨hL', m', hz', hE'⟩ := i2
      have mm : m' = m := nI_inj (by have := hE'.2.1.2.1; omega) (by omega) (hE'.2.1.1.symm.trans n39)
      subst mm
      have k1 := (p_nameC p2 hL' q fu).2 hv
      have hn : n ≤ 1000 := Nat.le_trans p2.1.1 p2.1.2.1
      have dd : DD N n c (wI (wI (wI μ2 2 0 7 5) 2 0 8 (nI (tkP c N t))) 2 0 6 (nI n)) := by
        obtain ⟨c1, c2, c3, c4, c5, c6⟩ := p2.2.1
        have fr : ∀ κ a q, ¬ (κ = 2 ∧ a = 0 ∧ (q = 6 ∨ q = 7 ∨ q = 8)) → (wI (wI (wI μ2 2 0 7 5) 2 0 8 (nI (tkP c N t))) 2 0 6 (nI n)).1 κ a q = μ2.1 κ a q := fun κ a q z => by rw [wI_o (by omega), wI_o (by omega), wI_o (by omega)]
        refine ⟨hn, ⟨(fr _ _ _ (by omega)).trans c1, fun q hq => ?_, (fr _ _ _ (by omega)).trans c3, (fr _ _ _ (by omega)).trans c4, c5, (funext fun q => fr _ _ _ (by omega)).trans c6.1, fun w => absurd w (by rw [wI_o (by omega), wI_o (by omega), wI_same]; decide)⟩, wI_same, by rw [wI_o (by omega), wI_o (by omega), wI_same]; decide⟩
        obtain ⟨a1, a2, a3, a4⟩ := c2 q hq
        exact ⟨(fr _ _ _ (by omega)).trans a1, (fr _ _ _ (by omega)).trans a2, (fr _ _ _ (by omega)).trans a3, a4⟩
      have fp : FPc μ2 (wI (wI (wI μ2 2 0 7 5) 2 0 8 (nI (tkP c N t))) 2 0 6 (nI n)) := ⟨fun κ a q z => by rw [wI_o (by omega), wI_o (by omega), wI_o (by omega)], rfl⟩
      have pn : PN N n c M1.1 (wI (wI (wI μ2 2 0 7 5) 2 0 8 (nI (tkP c N t))) 2 0 6 (nI n)) (noteM ν m' (tkP c N t) (tkE c N (tkP c N t) - tkP c N t) (476 + 21 * e + g)) := by
        refine ⟨dd, by rw [wI_o (by omega), wI_o (by omega), wI_same], m' + 1, m', tkP c N t, wI_same, by omega, by omega, ?_, xl, by rw [wI_o (by omega), wI_same], hv, fun k hk => ?_⟩
        · unfold noteM; rw [wI_o (by omega), wI_o (by omega), wI_o (by omega), wI_same]
        · obtain ⟨⟨y, a, y1, y2, y3, y4, y5⟩, -⟩ := hE'.2.1.2.2 k hk
          exact ⟨y, a, y1, by unfold noteM; rw [wI_o (by omega), wI_o (by omega), wI_o (by omega), wI_o (by omega)]; exact y2, y4⟩
      exact ⟨_, by show bnd _ _ = _; rw [k1, bnd_some], fce_trans (fce_p fp) fce_w, Or.inr (pn_c (pn_fn pn (fn_p s3)) (fun κ a q z => wI_o (by omega)) rfl)⟩
  · obtain ⟨μ1, ν1, s1, s2, s3, s4, s5⟩ := p_nameNo (p := nI (476 + 21 * e + g)) h q (fu + 1001) fu
    exact ⟨(), _, ν1, by show bnd _ _ = _; rw [s1, bnd_some], s2, fce_trans (fce_p s4) fce_w, fme_p s5, fn_p s5, Or.inl ⟨pb_c s3 (fun κ a q z => wI_o (by omega)) rfl, rfl⟩⟩
