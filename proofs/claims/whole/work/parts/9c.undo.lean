/-! promises 41, 45: undo, restoreSnapshot -/
/-- an operation that never throws -/
def OpN (p : Nat) (μ ν : Mem) (fc fr : Option (Int32 × Mem)) : Prop :=
  ∃ v μ' ν', fc = some (v, μ') ∧ fr = some (v, ν') ∧ ν'.1 26 0 6 = 0 ∧ Rel2 p μ' ν' ∧ KR μ μ' ∧ KC ν ν'
def u0C (e u : Nat) (μ : Mem) : Mem := wI (wI μ 0 0 14 (nI ((e + 9) % 10))) 0 0 15 (nI u)
def undC (e u : Nat) (μ : Mem) : Mem := cpS (tau (3 + (e + 9) % 10)) (sC 0) (u0C e u μ)
def undM (u : Nat) (ν : Mem) : Mem := rwP 4 u 0 0 700 (wI (wI ν 26 0 6 0) 26 0 5 (nI u))
theorem u0_o {e u : Nat} {μ : Mem} {a b c : Nat} (h0 : a ≠ 0) : (u0C e u μ).1 a b c = μ.1 a b c := by
  unfold u0C
  rw [wI_at, if_neg (fun q => h0 q.1), wI_at, if_neg (fun q => h0 q.1)]
theorem und_out {e u : Nat} {μ : Mem} {a b c : Nat} (h0 : a ≠ 0) (h : wd a = 0 ∨ b / wd a ≠ 0) : (undC e u μ).1 a b c = μ.1 a b c := by
  unfold undC
  rw [cp_out own_S h, u0_o h0]
theorem und_0 {e u k : Nat} {μ : Mem} : (undC e u μ).1 0 0 k = (u0C e u μ).1 0 0 k := cp_out own_S (Or.inl rfl)
theorem u0_stay {e u i : Nat} {μ : Mem} : Same μ (u0C e u μ) i i :=
  same_own fun κ n k hw hn => u0_o (fun q => hw (by rw [q]; rfl))
theorem und_same {e u : Nat} {μ : Mem} : Same (u0C e u μ) (undC e u μ) (3 + (e + 9) % 10) 0 := cp_same
theorem und_stay {e u i : Nat} {μ : Mem} (h : i ≠ 0) : Same μ (undC e u μ) i i :=
  same_own fun κ n k hw hn => und_out (fun q => hw (by rw [q]; rfl)) (Or.inr (by rw [hn]; exact h))
theorem undM_26 {u : Nat} {ν : Mem} {n k : Nat} (h6 : k ≠ 6) (h5 : k ≠ 5) : (undM u ν).1 26 n k = ν.1 26 n k := by
  show (wI (wI ν 26 0 6 0) 26 0 5 (nI u)).1 26 n k = _
  rw [wI_at, if_neg (fun q => h5 q.2.2), wI_at, if_neg (fun q => h6 q.2.2)]
theorem undM_27 {u : Nat} {ν : Mem} {n k : Nat} (h : n ≠ 0) : (undM u ν).1 27 n k = ν.1 27 n k := by
  show (if 27 = 27 ∧ n = 0 ∧ 700 * 0 ≤ k ∧ k < 700 * 0 + 700 then _ else _) = _
  rw [if_neg (fun q => h q.2.1)]
  rfl
theorem undM_0 {u : Nat} {ν : Mem} {k : Nat} (h : k < 700) : (undM u ν).1 27 0 k = rowT ν 4 (700 * u) k := by
  show (if 27 = 27 ∧ 0 = 0 ∧ 700 * 0 ≤ k ∧ k < 700 * 0 + 700 then (wI (wI ν 26 0 6 0) 26 0 5 (nI u)).1 27 4 (700 * u + (k - 700 * 0)) else _) = _
  rw [if_pos ⟨rfl, rfl, by omega, by omega⟩, show 700 * u + (k - 700 * 0) = 700 * u + k by omega]
  rfl
theorem rel2_undo {p : Nat} {μ ν : Mem} {e u : Nat} (h : Rel2 p μ ν) (he : e < 10) (hu : u + 1 ≤ 10) (f1 : μ.1 0 0 14 = nI e) (f2 : μ.1 0 0 15 = nI (u + 1)) : Rel2 p (undC e u μ) (undM u ν) := by
  obtain ⟨⟨r1, r2, r3, r4, r5, r6⟩, hP, hM, ⟨n, hn, b1, b2, b3⟩, hE, ⟨u', e', hu', he', u1, u2, e1, hist⟩, hS, hk3, hk9, hq, hz⟩ := h
  have eu : u' = u + 1 := nI_inj (by omega) (by omega) (u1.symm.trans f2)
  have ee : e' = e := nI_inj (by omega) (by omega) (e1.symm.trans f1)
  subst eu; subst ee
  have k0 : ∀ {k : Nat}, k ≠ 14 → k ≠ 15 → (undC e' u μ).1 0 0 k = μ.1 0 0 k := fun h1 h2 => by
    rw [und_0]; unfold u0C
    rw [wI_at, if_neg (fun q => h2 q.2.2), wI_at, if_neg (fun q => h1 q.2.2)]
  have kw : ∀ {a : Nat}, a ≠ 0 → wd a = 0 → (undC e' u μ).1 a = μ.1 a := fun h0 hw => funext fun b => funext fun c => und_out h0 (Or.inl hw)
  have w5 := kw (a := 5) (by decide) rfl
  have w8 := kw (a := 8) (by decide) rfl
  have w9 := kw (a := 9) (by decide) rfl
  have w1 := kw (a := 1) (by decide) rfl
  have h8 : ∀ i, i < 4 → (undC e' u μ).1 8 (4 * p + i) 0 = μ.1 8 (4 * p + i) 0 := fun i _ => by rw [w8]
  have hp : ∀ {T : Nat → Int32}, relP μ p T → relP (undC e' u μ) p T := fun q => relP_congr w5 w8 w9 rfl q
  have t0 : ∀ k, k < 700 → (undM u ν).1 27 0 k = rowT ν 4 (700 * u) k := fun k hk => undM_0 hk
  have t3 : ∀ k, k < 700 → rowT (undM u ν) 3 0 k = rowT ν 3 0 k := fun k _ => undM_27 (by decide)
  have t4 : ∀ {o : Nat} (k : Nat), k < 700 → rowT (undM u ν) 4 o k = rowT ν 4 o k := fun k _ => undM_27 (by decide)
  obtain ⟨s3, s4⟩ := hist u (by omega)
  rw [show (e' + 10 - (u + 1) + u) % 10 = (e' + 9) % 10 by omega] at s4
  refine ⟨⟨r1, r2, r3, r4, r5, r6⟩, relP_T t0 (hp s3), relM_T t0 (relM_same und_same (fun i hi => (h8 i hi).trans (u0_o (by decide)).symm) (relM_same u0_stay (fun i _ => u0_o (by decide)) s4)), ⟨n, hn, (k0 (by decide) (by decide)).trans b1, (undM_26 (by decide) (by decide)).trans b2, fun k hk => ?_⟩, ?_, ⟨u, (e' + 9) % 10, by omega, Nat.mod_lt _ (by decide), und_0.trans wI_same, (show (wI (wI ν 26 0 6 0) 26 0 5 (nI u)).1 26 0 5 = nI u from wI_same), und_0.trans ((wI_o (by decide)).trans wI_same), fun k hk => ?_⟩, ?_, hk3, hk9, fun j hj => ?_, fun j hj => ?_⟩
  · rw [w1]; exact b3 k hk
  · rw [k0 (by decide) (by decide), undM_26 (by decide) (by decide)]; exact hE
  · obtain ⟨q1, q2⟩ := hist k (by omega)
    rw [show (e' + 10 - (u + 1) + k) % 10 = ((e' + 9) % 10 + 10 - u + k) % 10 by omega] at q2
    exact ⟨relP_T t4 (hp q1), relM_T t4 (relM_same (und_stay (by omega)) h8 q2)⟩
  · exact hS.imp (fun q => ⟨(k0 (by decide) (by decide)).trans q.1, (undM_26 (by decide) (by decide)).trans q.2⟩) fun q =>
      ⟨(k0 (by decide) (by decide)).trans q.1, (undM_26 (by decide) (by decide)).trans q.2.1, relP_T t3 (hp q.2.2.1), relM_T t3 (relM_same (und_stay (by decide)) h8 q.2.2.2)⟩
  · by_cases hm : j / 8 = 0
    · have e3 := ((und_same (e := e') (u := u) (μ := μ)).2.2.2.2.2 ((j % 8) / 2) (by omega)).2.2 (j % 2) (by omega)
      rw [show 2 * (4 * 0 + j % 8 / 2) + j % 2 = j by omega] at e3
      obtain ⟨s, hh, r, a, b, c, d1, d2, d3⟩ := hq (2 * (4 * (3 + (e' + 9) % 10) + j % 8 / 2) + j % 2) (by omega)
      have o : ∀ {k : Nat}, (u0C e' u μ).1 19 (2 * (4 * (3 + (e' + 9) % 10) + j % 8 / 2) + j % 2) k = μ.1 19 (2 * (4 * (3 + (e' + 9) % 10) + j % 8 / 2) + j % 2) k := u0_o (by decide)
      exact ⟨s, hh, r, a, b, c, (e3.1 0 (by decide)).trans (o.trans d1), (e3.1 1 (by decide)).trans (o.trans d2), (e3.1 2 (by decide)).trans (o.trans d3)⟩
    · obtain ⟨s, hh, r, a, b, c, d1, d2, d3⟩ := hq j hj
      have o : ∀ {k : Nat}, (undC e' u μ).1 19 j k = μ.1 19 j k := und_out (by decide) (Or.inr hm)
      exact ⟨s, hh, r, a, b, c, o.trans d1, o.trans d2, o.trans d3⟩
  · by_cases hm : j / 4 = 0
    · have e3 := ((und_same (e := e') (u := u) (μ := μ)).2.2.2.2.2 (j % 4) (by omega)).1 10 (by decide)
      rw [show 4 * 0 + j % 4 = j by omega] at e3
      rw [e3, u0_o (by decide)]
      exact hz _ (by omega)
    · rw [und_out (by decide) (Or.inr hm)]
      exact hz j hj
theorem kr_0 {μ μ' : Mem} (h : ∀ κ n k, wd κ = 0 → κ ≠ 0 → μ'.1 κ n k = μ.1 κ n k) (h2 : ∀ κ n k, 31 ≤ κ → μ'.2.1 κ n k = μ.2.1 κ n k) : KR μ μ' := ⟨fun κ n k h1 h2 => by
    refine h κ n k ?_ (by omega)
    unfold wd
    rw [if_neg (by omega), if_neg (by omega), if_neg (by omega), if_neg (by omega)], h2⟩
theorem op_undo {p : Nat} {μ ν : Mem} (h : Rel2 p μ ν) (fu gu : Nat) : OpN p μ ν (fX12_undo (fu + 5) 0 μ) (fX13_undo (gu + 701) 0 ν) := by
  obtain ⟨u', e, hu, he, u1, u2, e1, _⟩ := h.2.2.2.2.2.1
  have h0 : Rel2 p μ (wI ν 26 0 6 0) := h
  have v5 : (wI ν 26 0 6 0).1 26 0 5 = nI u' := u2
  unfold fX12_undo fX13_undo
  simp only [nm_eq]
  rw [u1, v5]
  obtain _ | u := u'
  · rw [if_neg (show ¬ ¬ nI 0 = 0 from fun z => z rfl), if_neg (show ¬ ¬ nI 0 = 0 from fun z => z rfl)]
    exact ⟨-1, μ, wI ν 26 0 6 0, rfl, rfl, rfl, h, kr_nil, kc_26⟩
  · have ne : ¬ nI (u + 1) = 0 := fun z => absurd (show u + 1 = 0 from nI_inj (by omega) (by decide) z) (by omega)
    have s1 : nI (u + 1) - 1 = nI u := pk_sub (b := 1) (show 1 ≤ u + 1 by omega)
    have ev : ((nI e + 10) - 1) - ((nI e + 10) - 1) / (10 : Int32) * (10 : Int32) = nI ((e + 9) % 10) := by
      rw [show nI e + (10 : Int32) = nI (e + 10) from nI_add _ 10, show nI (e + 10) - 1 = nI (e + 9) from pk_sub (b := 1) (show 1 ≤ e + 10 by omega), show (10 : Int32) = nI 10 from rfl, remN (by omega) (by decide) (by decide)]
    have hm : (e + 9) % 10 < 10 := Nat.mod_lt _ (by decide)
    rw [if_pos ne, if_pos ne, ckD_ok (by decide), e1, ev, s1]
    have c15 : (wI μ 0 0 14 (nI ((e + 9) % 10))).1 0 0 15 = nI (u + 1) := (wI_o (by decide)).trans u1
    rw [c15, s1]
    have ec : wI (wI μ 0 0 14 (nI ((e + 9) % 10))) 0 0 15 (nI u) = u0C e u μ := rfl
    have c14 : (u0C e u μ).1 0 0 14 = nI ((e + 9) % 10) := (wI_o (by decide)).trans wI_same
    have m5 : (wI (wI ν 26 0 6 0) 26 0 5 (nI u)).1 26 0 5 = nI u := wI_same
    rw [ec, c14, m5, ckI_nI hm (by decide), nI_clamp (n := (e + 9) % 10) (by omega), cp_machine (by omega) (fun i hi => by rw [u0_o (by decide)]; exact rel2_z h (by omega)), bnd_some]
    have em : fX13_copy (gu + 701) 4 (nI u) 0 0 (wI (wI ν 26 0 6 0) 26 0 5 (nI u)) = _ := m_copy (a := 4) (r := u) (b := 0) (s := 0) (Or.inl (by decide)) (by show 700 * u + 700 ≤ 7000; omega) (by decide) gu
    rw [em, bnd_some]
    refine ⟨nI u, undC e u μ, undM u ν, ?_, ?_, (show (wI (wI ν 26 0 6 0) 26 0 5 (nI u)).1 26 0 6 = 0 from (wI_o (by decide)).trans wI_same), rel2_undo h he hu e1 u1, kr_0 (fun κ n k hw hn => und_out hn (Or.inl hw)) (fun _ _ _ _ => rfl), ⟨fun κ n k hk => ?_, fun κ n k _ => rfl⟩⟩
    · show some ((undC e u μ).1 0 0 15, _) = _
      rw [und_0, show (u0C e u μ).1 0 0 15 = nI u from wI_same]; rfl
    · show some ((undM u ν).1 26 0 5, _) = _
      rw [show (undM u ν).1 26 0 5 = nI u from (show (wI (wI ν 26 0 6 0) 26 0 5 (nI u)).1 26 0 5 = nI u from wI_same)]; rfl
    · show (if κ = 27 ∧ n = 0 ∧ 700 * 0 ≤ k ∧ k < 700 * 0 + 700 then _ else (wI (wI ν 26 0 6 0) 26 0 5 (nI u)).1 κ n k) = _
      rw [if_neg (by omega), wI_o (by omega), wI_o (by omega)]
theorem op_restore {p : Nat} {μ ν : Mem} (h : Rel2 p μ ν) (fu gu : Nat) : OpN p μ ν (fX12_restoreSnapshot (fu + 5) 0 μ) (fX13_restoreSnapshot (gu + 701) 0 ν) := by
  have hS : (μ.1 0 0 12 = 0 ∧ ν.1 26 0 7 = 0) ∨ (μ.1 0 0 12 = 1 ∧ ν.1 26 0 7 = 1 ∧ _ ∧ _) := h.2.2.2.2.2.2.1
  rcases hS with ⟨a, b⟩ | ⟨a, b, _⟩
  · exact ⟨0, μ, _, c_restore_no a _, m_restore_no b _, wI_same, h, kr_nil, kc_26⟩
  · refine ⟨1, _, _, c_restore h a fu, m_restore b gu, (wI_o (by decide)).trans ?_, rel2_restore h a, kr_0 (fun κ n k hw hn => res_out hn (Or.inl hw)) (fun _ _ _ _ => rfl), ⟨fun κ n k hk => ?_, fun κ n k _ => rfl⟩⟩
    · exact (show (wI ν 26 0 6 0).1 26 0 6 = 0 from wI_same)
    · show (wI (rwP 3 0 0 0 700 (wI ν 26 0 6 0)) 26 0 5 0).1 κ n k = _
      rw [wI_o (by omega)]
      show (if κ = 27 ∧ n = 0 ∧ 700 * 0 ≤ k ∧ k < 700 * 0 + 700 then _ else (wI ν 26 0 6 0).1 κ n k) = _
      rw [if_neg (by omega), wI_o (by omega)]
