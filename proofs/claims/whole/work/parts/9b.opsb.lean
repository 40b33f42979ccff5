/-! promise 32: schedule -/
theorem nI_or {a b : Nat} (ha : a < 2 ^ 31) (hb : b < 2 ^ 31) : nI a ||| nI b = nI (a ||| b) := by
  refine bt_ext fun q _ => ?_
  rw [bt_or, bt_nat, bt_nat, bt_nat, pk_tn (by omega), pk_tn (by omega), pk_tn (by have := Nat.or_lt_two_pow ha hb; omega), Nat.testBit_or]
theorem ent_pack {c q l : Nat} (hc : c ≤ 1000000) (hq : q < 16) (hl : l ≤ 1) : ((nI c <<< ((5 : Int32) &&& 31)) ||| (nI q <<< ((1 : Int32) &&& 31))) ||| nI l = nI (32 * c + 2 * q + l) := by
  rw [pk_shlN _ 5 (by decide) (by omega), pk_shlN _ 1 (by decide) (by omega), nI_or (by omega) (by omega)]
  have e1 : c * 2 ^ 5 ||| q * 2 ^ 1 = 32 * c + 2 * q := by
    have := Nat.two_pow_add_eq_or_of_lt (i := 5) (b := 2 * q) (by omega) c
    rw [show c * 2 ^ 5 = 2 ^ 5 * c by omega, show q * 2 ^ 1 = 2 * q by omega, ← this]
  have e2 : (32 * c + 2 * q) ||| l = 32 * c + 2 * q + l := by
    have := Nat.two_pow_add_eq_or_of_lt (i := 1) (b := l) (by omega) (16 * c + q)
    rw [show 2 ^ 1 * (16 * c + q) = 32 * c + 2 * q by omega] at this
    exact this.symm
  rw [e1, nI_or (by omega) (by omega), e2]
theorem relM_sched {μ : Mem} {p n C q0 l0 : Nat} {T : Nat → Int32} (hC : C ≤ 1000000) (hq0 : q0 < 16) (hl0 : l0 ≤ 1) (hn : n < 32) (tn : T 3 = nI n) (q : relM μ 0 p T) : relM (wI (wI μ 15 0 n (nI (32 * C + 2 * q0 + l0))) 12 0 8 (nI (n + 1))) 0 p (fun k => if k = 3 then nI (n + 1) else if k = 126 + 3 * n then nI l0 else if k = 125 + 3 * n then nI q0 else if k = 124 + 3 * n then nI C else T k) := by
  obtain ⟨⟨c, hc, c1, c2, c3⟩, ⟨o1, o2⟩, hp, hf, hm, ⟨n', hn', n1, n2, n3⟩, he⟩ := q
  have en : n' = n := nI_inj (by omega) (by omega) (n1.symm.trans tn)
  subst en
  generalize hT' : (fun k => if k = 3 then nI (n' + 1) else if k = 126 + 3 * n' then nI l0 else if k = 125 + 3 * n' then nI q0 else if k = 124 + 3 * n' then nI C else T k) = T'
  have t : ∀ k, k ≠ 3 → ¬ (124 + 3 * n' ≤ k ∧ k ≤ 126 + 3 * n') → T' k = T k := fun k a b => by
    rw [← hT']; show (if k = 3 then _ else _) = _
    rw [if_neg a, if_neg (by omega), if_neg (by omega), if_neg (by omega)]
  have t3 : T' 3 = nI (n' + 1) := by rw [← hT']; exact if_pos rfl
  have ta : T' (124 + 3 * n') = nI C := by
    rw [← hT']; show (if 124 + 3 * n' = 3 then _ else _) = _
    rw [if_neg (by omega), if_neg (by omega), if_neg (by omega), if_pos rfl]
  have tb : T' (125 + 3 * n') = nI q0 := by
    rw [← hT']; show (if 125 + 3 * n' = 3 then _ else _) = _
    rw [if_neg (by omega), if_neg (by omega), if_pos rfl]
  have tc : T' (126 + 3 * n') = nI l0 := by
    rw [← hT']; show (if 126 + 3 * n' = 3 then _ else _) = _
    rw [if_neg (by omega), if_pos rfl]
  have s : ∀ {κ a k : Nat}, ¬ (κ = 15 ∧ a = 0 ∧ k = n') → ¬ (κ = 12 ∧ a = 0 ∧ k = 8) → (wI (wI μ 15 0 n' (nI (32 * C + 2 * q0 + l0))) 12 0 8 (nI (n' + 1))).1 κ a k = μ.1 κ a k := fun {κ a k} x y => by rw [wI_o y, wI_o x]
  refine ⟨⟨c, hc, (t 1 (by omega) (by omega)).trans c1, (s (by omega) (by omega)).trans c2, fun k hk hkc q hq => ?_⟩, ?_, fun q hq => ?_, fun f hf' => ?_, fun a' ha' => ?_, ⟨n' + 1, by omega, t3, wI_same, fun k hk => ?_⟩, fun e' he4 h1 => ?_⟩
  · rw [t _ (by omega) (by omega), s (by omega) (by omega)]; exact c3 k hk hkc q hq
  · rw [t 2 (by omega) (by omega), s (by omega) (by omega)]; exact ⟨o1, o2⟩
  · have := hp q hq
    unfold relPin at this ⊢
    simp only [t (4 + 6 * q + 0) (by omega) (by omega), t (4 + 6 * q + 1) (by omega) (by omega), t (4 + 6 * q + 2) (by omega) (by omega), t (4 + 6 * q + 3) (by omega) (by omega), t (4 + 6 * q + 4) (by omega) (by omega), t (4 + 6 * q + 5) (by omega) (by omega)]
    have s12 : ∀ k, k ≠ 8 → (wI (wI μ 15 0 n' (nI (32 * C + 2 * q0 + l0))) 12 0 8 (nI (n' + 1))).1 12 0 k = μ.1 12 0 k := fun k hk => s (by omega) (by omega)
    have s17 : ∀ a k, (wI (wI μ 15 0 n' (nI (32 * C + 2 * q0 + l0))) 12 0 8 (nI (n' + 1))).1 17 a k = μ.1 17 a k := fun a k => s (by omega) (by omega)
    rw [s12 1 (by decide), s12 2 (by decide), s12 3 (by decide), s12 10 (by decide), s12 0 (by decide), s17, s17]
    exact this
  · rw [t _ (by omega) (by omega), s (by omega) (by omega)]; exact hf f hf'
  · rw [t _ (by omega) (by omega), s (by omega) (by omega)]; exact hm a' ha'
  · by_cases hkn : k = n'
    · subst hkn
      refine ⟨C, q0, l0, hC, hq0, hl0, ta, tb, tc, ?_⟩
      rw [wI_o (by omega)]; exact wI_same
    · obtain ⟨c', q, l, b1, b2, b3, b4, b5, b6, b7⟩ := n3 k (by omega)
      exact ⟨c', q, l, b1, b2, b3, (t _ (by omega) (by omega)).trans b4, (t _ (by omega) (by omega)).trans b5, (t _ (by omega) (by omega)).trans b6, (s (by omega) (by omega)).trans b7⟩
  · rw [s (by omega) (by omega)] at h1
    obtain ⟨E, a, cnt, d1, d2, d3, d4⟩ := he e' he4 h1
    refine ⟨relE_T (t _ (by omega) (by omega)) (t _ (by omega) (by omega)) (fun k hk => t _ (by omega) (by omega)) (relE_cg (fun c => s (by omega) (by omega)) (fun c => s (by omega) (by omega)) (fun t c _ => s (by omega) (by omega)) (fun t c _ => s (by omega) (by omega)) E), a, cnt, (t 0 (by omega) (by omega)).trans d1, d2, (t _ (by omega) (by omega)).trans d3, d4⟩
theorem op_schedule {p : Nat} {μ ν : Mem} (h : Rel2 p μ ν) (x y v : Int32) (fu gu : Nat) : Op p μ ν (fX12_schedule (fu + 5) 0 x y v μ) (fX13_schedule (gu + 701) 0 x y v ν) := by
  have h0 : Rel2 p μ (wI ν 26 0 6 0) := h
  obtain ⟨μ1, ν1, e1, e2, h1, k1, k2, ht, _, hr, hu, hw⟩ := both_remember h0
  obtain ⟨c, hc, cT, cC⟩ := rel2_clk h
  unfold fX12_schedule fX13_schedule
  simp only [jn_eq, nm_eq]
  rcases ix_cases y (n := 16) (by decide) with hx | ⟨q, hq, rfl⟩
  · refine op_bad h (k := 1) ?_ ?_
    · rw [bad_pin hx, bndX_inl]
    · rw [m_isPin_bad hx, bnd_some, if_neg nn0, m_raise, bnd_some, wI_wI]; rfl
  · have v1 : (wI ν 26 0 6 0).1 27 0 (1 : Int32).toNatClampNeg = nI c := cT
    rw [ok_pin hq, bndX_inr, m_isPin_ok hq, bnd_some, if_pos ne10, ckI_at (i := 1) (by decide), v1, r_inRange, bnd_some]
    rcases ix_cases v (n := 2) (by decide) with hv | ⟨j, hj, rfl⟩
    · have ei : fX13_inRange v 0 1 (wI ν 26 0 6 0) = some (0, wI ν 26 0 6 0) := r_bad (n := 1) (by decide) hv
      refine op_bad h (k := 2) ?_ ?_
      · rw [c_checkLevel_bad hv, bndX_inl]
      · rw [ei, bnd_some, if_neg nn0, m_raise, bnd_some, wI_wI]
        exact ite_self _
    · have ei : fX13_inRange (nI j) 0 1 (wI ν 26 0 6 0) = some (1, wI ν 26 0 6 0) := r_ok (n := 1) (by omega) (by decide)
      rw [c_checkLevel_ok hj, bndX_inr, cC, ei, bnd_some, if_pos ne10]
      by_cases hlo : x < nI c
      · refine op_bad h (k := 2) (if_pos hlo) ?_
        have nin : ¬ (nI c ≤ x ∧ x ≤ (1000000 : Int32)) := fun z => absurd z.1 (Int32.not_le.2 hlo)
        rw [if_neg nin, if_pos (show (0 : Int32) = 0 from rfl), m_raise, bnd_some, wI_wI]; rfl
      · by_cases hhi : x ≤ (1000000 : Int32)
        · obtain ⟨C, hC, rfl⟩ := nI_of2 (M := 1000000) (n := 1000000) (by decide) (fun z => hlo (Int32.lt_of_lt_of_le z (nI_pos' (by omega)))) hhi
          have hin : nI c ≤ nI C ∧ nI C ≤ (1000000 : Int32) := ⟨Int32.not_lt.1 hlo, hhi⟩
          obtain ⟨n, hn, n1, n2, _⟩ := h.2.2.1.2.2.2.2.2.1
          have w3 : (wI ν 26 0 6 0).1 27 0 (3 : Int32).toNatClampNeg = nI n := n1
          have w8 : μ.1 12 0 8 = nI n := n2
          rw [if_neg hlo, if_pos hhi, if_pos hin, if_neg ne10, w8, ckI_at (i := 3) (by decide), w3]
          by_cases hf : n < 32
          · have ln : nI n < (32 : Int32) := nI_lt (b := 32) hf (by decide)
            have nn : ¬ nI n = (32 : Int32) := fun z => absurd (show n = 32 from nI_inj (by omega) (by decide) z) (by omega)
            have u8 : μ1.1 12 0 8 = nI n := (hu 12 0 8 (by decide) (by decide) (Or.inr rfl)).trans w8
            have u3 : ν1.1 27 0 (3 : Int32).toNatClampNeg = nI n := (hw 3).trans n1
            have r3 : ∀ {α : Type} (o : Option α), ckI (3 : Int32) (if 0 = 4 then 7000 else 700) o = o := fun o => ckI_at (by decide)
            unfold fX3_addScheduled
            simp only [jn_eq, nm_eq, r3]
            rw [if_pos ln, if_pos nn, e1, e2, bnd_some, bnd_some, u8, if_neg (show ¬ (32 : Int32) ≤ nI n from nI_ge (b := 32) hf (by decide)), ckI_nI hf (by decide), nI_clamp (n := n) (by omega), ent_pack hC hq (by omega), show (wI μ1 15 0 n (nI (32 * C + 2 * q + j))).1 12 0 8 = nI n from (wI_o (by omega)).trans u8, nI_1, bnd_some, wI_same, u3, show (3 : Int32) * nI n = nI (3 * n) from pk_mul 3 n, show (124 : Int32) + nI (3 * n) = nI (124 + 3 * n) from nI_add 124 _, nI_1, show nI (124 + 3 * n) + 2 = nI (124 + 3 * n + 2) from nI_add _ 2,
              ckI_nI (r700 (show 124 + 3 * n < 700 by omega)) (by decide), ckI_nI (r700 (show 124 + 3 * n + 1 < 700 by omega)) (by decide), ckI_nI (r700 (show 124 + 3 * n + 2 < 700 by omega)) (by decide), nI_clamp (n := 124 + 3 * n) (by omega), nI_clamp (n := 124 + 3 * n + 1) (by omega), nI_clamp (n := 124 + 3 * n + 2) (by omega)]
            have w4 : (wI (wI (wI ν1 27 0 (124 + 3 * n) (nI C)) 27 0 (124 + 3 * n + 1) (nI q)) 27 0 (124 + 3 * n + 2) (nI j)).1 27 0 (3 : Int32).toNatClampNeg = nI n := (wI_o (by show ¬ (27 = 27 ∧ 0 = 0 ∧ 3 = _); omega)).trans ((wI_o (by show ¬ (27 = 27 ∧ 0 = 0 ∧ 3 = _); omega)).trans ((wI_o (by show ¬ (27 = 27 ∧ 0 = 0 ∧ 3 = _); omega)).trans u3))
            rw [w4, nI_1]
            have fT : (fun k => (wI (wI (wI (wI ν1 27 0 (124 + 3 * n) (nI C)) 27 0 (124 + 3 * n + 1) (nI q)) 27 0 (124 + 3 * n + 2) (nI j)) 27 0 3 (nI (n + 1))).1 27 0 k) = (fun k => if k = 3 then nI (n + 1) else if k = 126 + 3 * n then nI j else if k = 125 + 3 * n then nI q else if k = 124 + 3 * n then nI C else ν1.1 27 0 k) := by
              funext k
              show tN _ k = _
              rw [tN_wI, tN_wI, tN_wI, tN_wI, show 124 + 3 * n + 2 = 126 + 3 * n by omega, show 124 + 3 * n + 1 = 125 + 3 * n by omega]
            refine ⟨.inr (nI (n + 1)), _, nI (n + 1), wI (wI (wI (wI ν1 27 0 (124 + 3 * n) (nI C)) 27 0 (124 + 3 * n + 1) (nI q)) 27 0 (124 + 3 * n + 2) (nI j)) 27 0 3 (nI (n + 1)), rfl, ?_, ⟨?_, rfl⟩, ?_, kr_trans k1 ⟨fun κ a k b1 b2 => by rw [wI_o (by omega), wI_o (by omega)], fun _ _ _ _ => rfl⟩, kc_trans kc_26 (kc_trans k2 ⟨fun κ a k b => ?_, fun _ _ _ _ => rfl⟩)⟩
            · show some ((wI (wI (wI (wI ν1 27 0 (124 + 3 * n) (nI C)) 27 0 (124 + 3 * n + 1) (nI q)) 27 0 (124 + 3 * n + 2) (nI j)) 27 0 3 (nI (n + 1))).1 27 0 3, _) = _
              rw [wI_same]; rfl
            · rw [wI_o (by omega), wI_o (by omega), wI_o (by omega), wI_o (by omega)]; exact ht
            · refine rel2_upd h1 (fun κ a k hk hd => ?_) rfl (fun a k _ => ?_) (fun a k => ?_) (fun a k hn => ?_) (fun k hk => ?_) ?_ (fun i hi => ?_) (fun i hi => ?_)
              · rw [wI_o, wI_o]
                · rintro ⟨rfl, rfl, rfl⟩; exact hd.elim (by decide) (fun z => z rfl)
                · rintro ⟨rfl, rfl, rfl⟩; exact hd.elim (by decide) (fun z => z rfl)
              · rw [wI_o (by omega), wI_o (by omega), wI_o (by omega), wI_o (by omega)]
              · rw [wI_o (by omega), wI_o (by omega), wI_o (by omega), wI_o (by omega)]
              · rw [wI_o (by omega), wI_o (by omega), wI_o (by omega), wI_o (by omega)]
              · rw [wI_o (by omega), wI_o (by omega), wI_o (by omega), wI_o (by omega)]
              · rw [fT]; exact relM_sched hC hq (by omega) hf ((hw 3).trans n1) (rel2_now h1)
              · obtain ⟨s, hh, r, a, b, c, d1, d2, d3⟩ := rel2_okQ h1 (show i < 104 by omega)
                have w : ∀ k, (wI (wI μ1 15 0 n (nI (32 * C + 2 * q + j))) 12 0 8 (nI (n + 1))).1 19 i k = μ1.1 19 i k := fun k => by rw [wI_o (by omega), wI_o (by omega)]
                exact ⟨s, hh, r, a, b, c, (w 0).trans d1, (w 1).trans d2, (w 2).trans d3⟩
              · rw [wI_o (by omega), wI_o (by omega)]; exact rel2_z h1 (by omega)
            · rw [wI_o (by omega), wI_o (by omega), wI_o (by omega), wI_o (by omega)]
          · have en : n = 32 := by omega
            subst en
            rw [if_neg (show ¬ nI 32 < (32 : Int32) by decide), if_neg (show ¬ ¬ nI 32 = (32 : Int32) from fun z => z rfl)]
            exact ⟨.inr (-2), μ, -2, wI ν 26 0 6 0, rfl, rfl, ⟨rfl, rfl⟩, h, kr_nil, kc_26⟩
        · refine op_bad h (k := 2) ((if_neg hlo).trans (if_neg hhi)) ?_
          have nin : ¬ (nI c ≤ x ∧ x ≤ (1000000 : Int32)) := fun z => hhi z.2
          rw [if_neg nin, if_pos (show (0 : Int32) = 0 from rfl), m_raise, bnd_some, wI_wI]; rfl
