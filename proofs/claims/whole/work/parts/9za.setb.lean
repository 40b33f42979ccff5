/-! PARSING: the settings one by one, behind their words -/
theorem c_takePin {μ : Mem} : fX5_takePin 0 μ = fX11_takeNumber 0 0 15 μ := bnd_eta
theorem c_takeFlag {μ : Mem} : fX5_takeFlag 0 μ = fX11_takeNumber 0 0 7 μ := bnd_eta
theorem grp_rot {b s q : Nat} (hb : b < 16) (hs : s ≤ 16) (hq : q < 32) : bt (rotP (((1 : Int32) <<< (nI s &&& 31)) - 1) (nI b)) q = (decide (q < 16) && grpM b s q) := by
  rw [bt_rot (by omega) hq]
  by_cases g : q < 16
  · rw [decide_eq_true g, Bool.true_and, Bool.true_and, low_mask (by omega) (by omega)]
    unfold grpM
    by_cases l : (q + (16 - b)) % 16 < s
    · rw [decide_eq_true l]
      symm
      rw [List.any_eq_true]
      exact ⟨(q + (16 - b)) % 16, List.mem_range.2 l, decide_eq_true (by omega)⟩
    · rw [decide_eq_false l]
      symm
      rw [List.any_eq_false]
      intro j hj w
      have := List.mem_range.1 hj
      have := of_decide_eq_true w
      omega
  · rw [decide_eq_false g, Bool.false_and, Bool.false_and]
/-- a group of pins: its base, its size -/
theorem set_grp {T0 : Md → Nat → Int32} {N n t i0 e j mx i f : Nat} {c : Nat → Int32} {M : Md} {μ ν : Mem} (h : PG N n c t μ ν) (hI : IS N n c i0 e j T0 0 M t μ ν) (he : e < 4) (hi0 : i0 ≤ 32) (h1 : 1 ≤ mx) (h2 : mx ≤ 16) (hi : i = 5 ∧ f = 5 ∨ i = 6 ∧ f = 7 ∨ i = 7 ∧ f = 9) (fu : Nat) :
    P2 N n c (fun μ => bnd (fX11_takeNumber 0 0 15 μ) fun x μ1 => bnd (bnd (fX11_takeNumber 0 1 (nI mx) (wI μ1 8 j f x)) fun y μ2 => bnd (fX12_rotatedPins (((1 : Int32) <<< (y &&& 31)) - (1 : Int32)) ((wI μ1 8 j f x).1 8 j f) μ2) fun z μ3 => some (z, μ3)) fun w μ4 => some ((), wI μ4 8 j (f + 1) w))
      (bnd (bnd (fX13_putNumber (fu + 1001) 0 (nI (476 + 21 * e + f)) 0 15 ν) fun _ ν1 => bnd (fX13_putNumber (fu + 1001) 0 (nI (476 + 21 * e + (f + 1))) 1 (nI mx) ν1) fun _ ν2 => some ((), ν2)) fun _ ν3 => fin ν3) t μ ν (fun t' b μ' ν' => b = 1 ∧ IS N n c i0 e j T0 0 M t' μ' ν') (FcE j) (FmE e) 0 := by
  obtain ⟨μ1, ν1, v, s1, s2, s3, s4⟩ := p_put (lo := 0) (hi := 15) h (by decide) (by decide) (p := 476 + 21 * e + f) (by omega) fu
  obtain ⟨hL, m, hz, hE⟩ := hI
  have s1 : fX11_takeNumber 0 0 15 μ = some (v, μ1) := s1
  have s2 : fX13_putNumber (fu + 1001) 0 (nI (476 + 21 * e + f)) 0 15 ν = some ((), ν1) := s2
  rcases s3 with ⟨a1, ⟨b, -, b2, rfl⟩, a3, a4⟩ | ⟨a1, a2, a3⟩
  · have g1 : PG N n c (t + 1) (wI μ1 8 j f (nI b)) ν1 := pg_c a3 (fun κ a q z => wI_o (by omega)) rfl
    obtain ⟨μ2, ν2, w, r1, r2, r3, r4⟩ := p_put (lo := 1) (hi := mx) g1 (by omega) h1 (p := 476 + 21 * e + (f + 1)) (by omega) fu
    have r1 : fX11_takeNumber 0 1 (nI mx) (wI μ1 8 j f (nI b)) = some (w, μ2) := r1
    have r2 : fX13_putNumber (fu + 1001) 0 (nI (476 + 21 * e + (f + 1))) 1 (nI mx) ν1 = some ((), ν2) := r2
    have fc : ∀ x, FcE j μ (wI μ2 8 j (f + 1) x) := fun x => fce_trans (fce_p s4) (fce_trans fce_w (fce_trans (fce_p r4) fce_w))
    have fm1 : FmE e ν ν1 := fme_trans (fme_w (by omega)) (fme_p a4)
    rcases r3 with ⟨c1, ⟨s, d1, d2, rfl⟩, c3, c4⟩ | ⟨c1, c2, c3⟩
    · have g2 : ∀ x, PG N n c (t + 1 + 1) (wI μ2 8 j (f + 1) x) ν2 := fun x => pg_c c3 (fun κ a q z => wI_o (by omega)) rfl
      refine ⟨1, wI μ2 8 j (f + 1) (rotP (((1 : Int32) <<< (nI s &&& 31)) - 1) (nI b)), ν2, ?_, by rw [s2, bnd_some, r2, bnd_some, bnd_some, fin_g (g2 0)], fc _, fme_trans fm1 (fme_trans (fme_w (by omega)) (fme_p c4)), fn_trans (fn_trans fn_w (fn_p a4)) (fn_trans fn_w (fn_p c4)), Or.inr ⟨t + 1 + 1, by omega, g2 _, rfl, lc_c hL (fun κ a q z => (fc _).1 κ a q (by omega) (by omega)), m, ?_, ?_⟩⟩
      · show bnd _ _ = _
        rw [s1, bnd_some, r1, bnd_some, wI_same, c_rot, bnd_some, bnd_some]
      · have := tk_lt h.1 a1; have := tk_lt h.1 c1; omega
      · have ec1 : (wI μ2 8 j (f + 1) (rotP (((1 : Int32) <<< (nI s &&& 31)) - 1) (nI b))).1 8 j f = nI b := by rw [wI_o (by omega), r4.1 _ _ _ (by omega), wI_same]
        have em1 : ν2.1 27 1 (476 + 21 * e + f) = nI b := by rw [c4.1 _ _ _ (by omega), wI_o (by omega), a4.1 _ _ _ (by omega), wI_same]
        have em2 : ν2.1 27 1 (476 + 21 * e + (f + 1)) = nI s := by rw [c4.1 _ _ _ (by omega), wI_same]
        have mem : ∀ i f, i = 5 ∧ f = 5 ∨ i = 6 ∧ f = 7 ∨ i = 7 ∧ f = 9 → mdep.getD i [] = [f, f + 1] ∧ sdep.getD i [] = [f, f + 1] := fun i f hi => by rcases hi with ⟨rfl, rfl⟩ | ⟨rfl, rfl⟩ | ⟨rfl, rfl⟩ <;> exact ⟨rfl, rfl⟩
        obtain ⟨em, es⟩ := mem i f hi
        refine es_upd hE he hi0 i (by omega) (by omega) (fun k k1 k2 => ?_) (fun a ha => ?_) (fun a _ _ => ?_) ?_ ?_
        · rw [em] at k2
          simp only [List.mem_cons, List.not_mem_nil, or_false, not_or] at k2
          rw [wI_o (by omega), r4.1 _ _ _ (by omega), wI_o (by omega)]; exact s4.1 _ _ _ (by omega)
        · rw [es] at ha
          have q1 := ha f (by omega) (by simp)
          have q2 := ha (f + 1) (by omega) (by simp)
          rw [c4.1 _ _ _ (by omega), wI_o (by omega), a4.1 _ _ _ (by omega), wI_o (by omega)]
        · funext q; rw [c4.1 _ _ _ (by omega), wI_o (by omega), a4.1 _ _ _ (by omega), wI_o (by omega)]
        · rw [c4.1 _ _ _ (by omega), wI_o (by omega), a4.1 _ _ _ (by omega), wI_o (by omega)]
        · have fin := fun q (hq : q < 32) => grp_rot (b := b) (s := s) (q := q) (by omega) (by omega) hq
          rcases hi with ⟨rfl, rfl⟩ | ⟨rfl, rfl⟩ | ⟨rfl, rfl⟩
          · exact ⟨b, s, by omega, by omega, em1, em2, ec1, fun q hq => by rw [wI_same]; exact fin q hq⟩
          · exact ⟨b, s, by omega, by omega, em1, em2, ec1, fun q hq => by rw [wI_same]; exact fin q hq⟩
          · exact ⟨b, s, by omega, by omega, em1, em2, ec1, fun q hq => by rw [wI_same]; exact fin q hq⟩
    · refine ⟨0, _, ν2, by show bnd _ _ = _; rw [s1, bnd_some, r1, bnd_some, wI_same, c_rot, bnd_some, bnd_some], by rw [s2, bnd_some, r2, bnd_some, bnd_some, fin_b c2], fc _, fme_trans fm1 (fme_p c3), fn_trans (fn_trans fn_w (fn_p a4)) (fn_p c3), Or.inl ⟨pb_c c2 (fun κ a q z => wI_o (by omega)) rfl, rfl⟩⟩
  · have g1 : PB N n c (wI μ1 8 j f v) ν1 := pb_c a2 (fun κ a q z => wI_o (by omega)) rfl
    refine ⟨0, _, ν1, by show bnd _ _ = _; rw [s1, bnd_some, d_number (pb_dd g1), bnd_some, wI_same, c_rot, bnd_some, bnd_some], by rw [s2, bnd_some, b_put g1, bnd_some, bnd_some, fin_b g1], fce_trans (fce_p s4) (fce_trans fce_w fce_w), fme_p a3, fn_p a3, Or.inl ⟨pb_c g1 (fun κ a q z => wI_o (by omega)) rfl, rfl⟩⟩
/-- the clock -/
theorem set_clock {T0 : Md → Nat → Int32} {N n t i0 e j : Nat} {c : Nat → Int32} {M : Md} {μ ν : Mem} (h : PG N n c t μ ν) (hI : IS N n c i0 e j T0 0 M t μ ν) (he : e < 4) (hi0 : i0 ≤ 32) (fu : Nat) :
    P2 N n c (fun μ => bnd (fX11_takeNumber 0 1 255 μ) fun x μ1 => bnd (fX11_takeNumber 0 0 255 (wI μ1 8 j 4 ((256 : Int32) * x))) fun y μ2 => some ((), wI μ2 8 j 4 ((wI μ1 8 j 4 ((256 : Int32) * x)).1 8 j 4 + y)))
      (bnd (fX13_readClock (fu + 1001) 0 (nI (476 + 21 * e)) ν) fun _ ν3 => fin ν3) t μ ν (fun t' b μ' ν' => b = 1 ∧ IS N n c i0 e j T0 0 M t' μ' ν') (FcE j) (FmE e) 0 := by
  obtain ⟨μ1, ν1, v, s1, s2, s3, s4, s5⟩ := p_number (lo := 1) (hi := 255) h (by decide) (by decide) fu
  obtain ⟨hL, m, hz, hE⟩ := hI
  have s1 : fX11_takeNumber 0 1 255 μ = some (v, μ1) := s1
  have s2 : fX13_number (fu + 1001) 0 1 255 ν = some (v, ν1) := s2
  have ew : nI (476 + 21 * e) + 2 = nI (476 + 21 * e + 2) := nI_add _ 2
  unfold fX13_readClock
  simp only [nm_eq]
  rw [s2, bnd_some, ew]
  rcases s3 with ⟨a1, ⟨x, x1, x2, rfl⟩, a3⟩ | ⟨a1, a2⟩
  · have g1 : PG N n c (t + 1) (wI μ1 8 j 4 ((256 : Int32) * nI x)) ν1 := pg_c a3 (fun κ a q z => wI_o (by omega)) rfl
    obtain ⟨μ2, ν2, w, r1, r2, r3, r4, r5⟩ := p_number (lo := 0) (hi := 255) g1 (by decide) (by decide) fu
    have r1 : fX11_takeNumber 0 0 255 (wI μ1 8 j 4 ((256 : Int32) * nI x)) = some (w, μ2) := r1
    have r2 : fX13_number (fu + 1001) 0 0 255 ν1 = some (w, ν2) := r2
    have fc : ∀ x, FcE j μ (wI μ2 8 j 4 x) := fun x => fce_trans (fce_p s4) (fce_trans fce_w (fce_trans (fce_p r4) fce_w))
    have fm : ∀ x, FmE e ν (wI ν2 27 1 (476 + 21 * e + 2) x) := fun x => fme_trans (fme_p s5) (fme_trans (fme_p r5) (fme_w (by omega)))
    have ff : ∀ x, FN ν (wI ν2 27 1 (476 + 21 * e + 2) x) := fun x => fn_trans (fn_p s5) (fn_trans (fn_p r5) fn_w)
    rw [r2, bnd_some, ckI_nI (show 476 + 21 * e + 2 < (if 1 = 4 then 7000 else 700) from (show 476 + 21 * e + 2 < 700 by omega)) (by decide), nI_clamp (n := 476 + 21 * e + 2) (by omega), bnd_some]
    rcases r3 with ⟨c1, ⟨y, y1, y2, rfl⟩, c3⟩ | ⟨c1, c2⟩
    · have ev : (256 : Int32) * nI x + nI y = nI (256 * x + y) := by rw [show (256 : Int32) = nI 256 from rfl, pk_mul, nI_add]
      have g2 : PG N n c (t + 1 + 1) (wI μ2 8 j 4 (nI (256 * x + y))) (wI ν2 27 1 (476 + 21 * e + 2) (nI (256 * x + y))) := pg_m (pg_c c3 (fun κ a q z => wI_o (by omega)) rfl) (fun q _ _ => wI_o (by omega)) (funext fun k => wI_o (by omega))
      refine ⟨1, wI μ2 8 j 4 (nI (256 * x + y)), wI ν2 27 1 (476 + 21 * e + 2) (nI (256 * x + y)), by show bnd _ _ = _; rw [s1, bnd_some, r1, bnd_some, wI_same, ev], by rw [ev, fin_g g2], fc _, fm _, ff _, Or.inr ⟨t + 1 + 1, by omega, g2, rfl, lc_c hL (fun κ a q z => (fc _).1 κ a q (by omega) (by omega)), m, ?_, ?_⟩⟩
      · have := tk_lt h.1 a1; have := tk_lt h.1 c1; omega
      · refine es_upd hE he hi0 2 (by omega) (by omega) (fun k k1 k2 => ?_) (fun a ha => ?_) (fun a _ _ => ?_) ?_ ⟨256 * x + y, by omega, by omega, wI_same, wI_same⟩
        · rw [wI_o (fun z => k2 (by rw [z.2.2]; decide)), r4.1 _ _ _ (by omega), wI_o (fun z => k2 (by rw [z.2.2]; decide))]; exact s4.1 _ _ _ (by omega)
        · rw [wI_o (fun z => ha 2 (by decide) (by decide) z.2.2), r5.1 _ _ _ (by omega), s5.1 _ _ _ (by omega)]
        · funext q; rw [wI_o (by omega), r5.1 _ _ _ (by omega), s5.1 _ _ _ (by omega)]
        · rw [wI_o (by omega), r5.1 _ _ _ (by omega), s5.1 _ _ _ (by omega)]
    · have g2 : ∀ u u', PB N n c (wI μ2 8 j 4 u) (wI ν2 27 1 (476 + 21 * e + 2) u') := fun u u' => pb_m (pb_c c2 (fun κ a q z => wI_o (by omega)) rfl) (fun q _ _ => wI_o (by omega))
      exact ⟨0, _, _, by show bnd _ _ = _; rw [s1, bnd_some, r1, bnd_some], fin_b (g2 0 _), fc _, fm _, ff _, Or.inl ⟨g2 _ _, rfl⟩⟩
  · have g1 : PB N n c (wI μ1 8 j 4 ((256 : Int32) * v)) ν1 := pb_c a2 (fun κ a q z => wI_o (by omega)) rfl
    have e2 : fX13_number (fu + 1001) 0 0 255 ν1 = some (0, ν1) := (b_number g1 fu).2
    rw [e2, bnd_some, ckI_nI (show 476 + 21 * e + 2 < (if 1 = 4 then 7000 else 700) from (show 476 + 21 * e + 2 < 700 by omega)) (by decide), nI_clamp (n := 476 + 21 * e + 2) (by omega), bnd_some]
    have g2 : ∀ u u', PB N n c (wI (wI μ1 8 j 4 ((256 : Int32) * v)) 8 j 4 u) (wI ν1 27 1 (476 + 21 * e + 2) u') := fun u u' => pb_m (pb_c g1 (fun κ a q z => wI_o (by omega)) rfl) (fun q _ _ => wI_o (by omega))
    exact ⟨0, _, _, by show bnd _ _ = _; rw [s1, bnd_some, d_number (pb_dd g1), bnd_some], fin_b (g2 0 _), fce_trans (fce_p s4) (fce_trans fce_w fce_w), fme_trans (fme_p s5) (fme_w (by omega)), fn_trans (fn_p s5) fn_w, Or.inl ⟨g2 _ _, rfl⟩⟩
/-- autopush and autopull: the flag, the limit -/
theorem set_lim {T0 : Md → Nat → Int32} {N n t i0 e j fl li gl i1 i2 : Nat} {c : Nat → Int32} {M : Md} {μ ν : Mem} (h : PG N n c t μ ν) (hI : IS N n c i0 e j T0 0 M t μ ν) (he : e < 4) (hi0 : i0 ≤ 32) (hi : fl = 15 ∧ li = 17 ∧ gl = 15 ∧ i1 = 12 ∧ i2 = 14 ∨ fl = 16 ∧ li = 18 ∧ gl = 17 ∧ i1 = 13 ∧ i2 = 15) (fu : Nat) :
    P2 N n c (fun μ => bnd (fX11_takeNumber 0 1 32 (wI μ 8 j fl 1)) fun x μ1 => some ((), wI μ1 8 j li x))
      (bnd (bnd (fX13_putNumber (fu + 1001) 0 (nI (476 + 21 * e + gl)) 1 32 ν) fun _ ν1 => some ((), wI ν1 27 1 (476 + 21 * e + (gl + 1)) 1)) fun _ ν3 => fin ν3) t μ ν (fun t' b μ' ν' => b = 1 ∧ IS N n c i0 e j T0 0 M t' μ' ν') (FcE j) (FmE e) 0 := by
  have h0 : PG N n c t (wI μ 8 j fl 1) ν := pg_c h (fun κ a q z => wI_o (by omega)) rfl
  obtain ⟨μ1, ν1, v, s1, s2, s3, s4⟩ := p_put (lo := 1) (hi := 32) h0 (by decide) (by decide) (p := 476 + 21 * e + gl) (by omega) fu
  obtain ⟨hL, m, hz, hE⟩ := hI
  have s1 : fX11_takeNumber 0 1 32 (wI μ 8 j fl 1) = some (v, μ1) := s1
  have s2 : fX13_putNumber (fu + 1001) 0 (nI (476 + 21 * e + gl)) 1 32 ν = some ((), ν1) := s2
  have fc : ∀ x, FcE j μ (wI μ1 8 j li x) := fun x => fce_trans fce_w (fce_trans (fce_p s4) fce_w)
  rcases s3 with ⟨a1, ⟨k, k1, k2, rfl⟩, a3, a4⟩ | ⟨a1, a2, a3⟩
  · have fm : FmE e ν (wI ν1 27 1 (476 + 21 * e + (gl + 1)) 1) := fme_trans (fme_w (by omega)) (fme_trans (fme_p a4) (fme_w (by omega)))
    have ff : FN ν (wI ν1 27 1 (476 + 21 * e + (gl + 1)) 1) := fn_trans fn_w (fn_trans (fn_p a4) fn_w)
    have g1 : PG N n c (t + 1) (wI μ1 8 j li (nI k)) (wI ν1 27 1 (476 + 21 * e + (gl + 1)) 1) := pg_m (pg_c a3 (fun κ a q z => wI_o (by omega)) rfl) (fun q _ _ => wI_o (by omega)) (funext fun k => wI_o (by omega))
    have mem : ∀ fl li gl i1 i2, fl = 15 ∧ li = 17 ∧ gl = 15 ∧ i1 = 12 ∧ i2 = 14 ∨ fl = 16 ∧ li = 18 ∧ gl = 17 ∧ i1 = 13 ∧ i2 = 15 → mdep.getD i1 [] = [fl] ∧ sdep.getD i1 [] = [gl + 1] ∧ mdep.getD i2 [] = [li] ∧ sdep.getD i2 [] = [gl] := fun _ _ _ _ _ hi => by rcases hi with ⟨rfl, rfl, rfl, rfl, rfl⟩ | ⟨rfl, rfl, rfl, rfl, rfl⟩ <;> exact ⟨rfl, rfl, rfl, rfl⟩
    obtain ⟨m1, m2, m3, m4⟩ := mem _ _ _ _ _ hi
    refine ⟨1, wI μ1 8 j li (nI k), _, by show bnd _ _ = _; rw [s1, bnd_some], by rw [s2, bnd_some, bnd_some, fin_g g1], fc _, fm, ff, Or.inr ⟨t + 1, by omega, g1, rfl, lc_c hL (fun κ a q z => (fc _).1 κ a q (by omega) (by omega)), m, ?_, ?_⟩⟩
    · have := tk_lt h.1 a1; omega
    · have E1 : ES N c M i0 m e j (T0 M) (wI μ 8 j fl 1) (wI ν 27 1 (476 + 21 * e + (gl + 1)) 1) := by
        refine es_upd hE he hi0 i1 (by omega) (by omega) (fun k k1 k2 => ?_) (fun a ha => ?_) (fun a _ _ => ?_) ?_ ?_
        · rw [m1] at k2
          exact wI_o (fun z => k2 (by rw [z.2.2]; simp))
        · rw [m2] at ha
          exact wI_o (fun z => ha (gl + 1) (by omega) (by simp) z.2.2)
        · funext q; exact wI_o (by omega)
        · exact wI_o (by omega)
        · rcases hi with ⟨rfl, rfl, rfl, rfl, rfl⟩ | ⟨rfl, rfl, rfl, rfl, rfl⟩
          · exact ⟨wI_same.trans wI_same.symm, Or.inr wI_same⟩
          · exact ⟨wI_same.trans wI_same.symm, Or.inr wI_same⟩
      have vc : ∀ q, ¬ q = 476 + 21 * e + gl → ¬ q = 476 + 21 * e + (gl + 1) → (wI ν1 27 1 (476 + 21 * e + (gl + 1)) 1).1 27 1 q = ν.1 27 1 q := fun q z w => by rw [wI_o (by omega), a4.1 _ _ _ (by omega), wI_o (by omega)]
      refine es_upd E1 he hi0 i2 (by omega) (by omega) (fun k k1 k2 => ?_) (fun a ha => ?_) (fun a _ _ => ?_) ?_ ?_
      · rw [m3] at k2
        rw [wI_o (fun z => k2 (by rw [z.2.2]; simp))]; exact s4.1 _ _ _ (by omega)
      · rw [m4] at ha
        have q1 := ha gl (by omega) (by simp)
        by_cases z : a = 476 + 21 * e + (gl + 1)
        · rw [z, wI_same, wI_same]
        · rw [vc a q1 z]; exact (wI_o (by omega)).symm
      · funext q; rw [wI_o (by omega), a4.1 _ _ _ (by omega), wI_o (by omega)]; exact (wI_o (by omega)).symm
      · rw [wI_o (by omega), a4.1 _ _ _ (by omega), wI_o (by omega)]; exact (wI_o (by omega)).symm
      · have e1 : (wI ν1 27 1 (476 + 21 * e + (gl + 1)) 1).1 27 1 (476 + 21 * e + gl) = nI k := by rw [wI_o (by omega), a4.1 _ _ _ (by omega), wI_same]
        rcases hi with ⟨rfl, rfl, rfl, rfl, rfl⟩ | ⟨rfl, rfl, rfl, rfl, rfl⟩
        · exact ⟨k, k1, k2, e1, wI_same⟩
        · exact ⟨k, k1, k2, e1, wI_same⟩
  · have g1 : PB N n c (wI μ1 8 j li v) (wI ν1 27 1 (476 + 21 * e + (gl + 1)) 1) := pb_m (pb_c a2 (fun κ a q z => wI_o (by omega)) rfl) (fun q _ _ => wI_o (by omega))
    exact ⟨0, _, _, by show bnd _ _ = _; rw [s1, bnd_some], by rw [s2, bnd_some, bnd_some, fin_b g1], fc _, fme_trans (fme_p a3) (fme_w (by omega)), fn_trans (fn_p a3) fn_w, Or.inl ⟨g1, rfl⟩⟩
