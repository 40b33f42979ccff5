theorem op_put {p : Nat} {μ ν : Mem} (h : Rel2 p μ ν) (x v : Int32) (fu gu : Nat) : Op p μ ν (fX12_put (fu + 5) 0 x v μ) (fX13_put (gu + 701) 0 x v ν) := by
  have h0 : Rel2 p μ (wI ν 26 0 6 0) := h
  obtain ⟨μ1, ν1, e1, e2, h1, k1, k2, ht, _, hr, hu, hw⟩ := both_remember h0
  unfold fX12_put fX13_put
  simp only [nm_eq]
  rcases eng2_cases h0 x with ⟨a, b⟩ | ⟨e, he, rfl, a, b, c⟩
  · rw [c_queue_bad a, b, bndX_inl, bnd_some, if_neg nn0, m_raise, bnd_some, wI_wI]
    refine ⟨.inl 1, μ, 0, wI ν 26 0 6 1, rfl, rfl, rfl, h, kr_nil, ⟨fun κ n k hk => ?_, fun _ _ _ _ => rfl⟩⟩
    rw [wI_at, if_neg (by omega)]
  · have eq : qOf e 0 = 2 * e := if_pos rfl
    have E := rel2_engine h0 he c
    obtain ⟨s, hh, r, hs, hr8, h8, g1, g2, g3, g4, g5, g6⟩ := E.2.2.2.2.2.2.2.2.1
    have f1 := m_isFull he g4 g5 (by omega) hr8
    have f0 := c_isFull g1 g2 (by omega) hr8
    rw [c_queue_at he a, eq, bndX_inr, ckB_ok (by omega), b, bnd_some, if_pos ne10, f0, f1, bnd_some, bnd_some]
    by_cases hf : s < r
    · have q1 : μ1.1 19 (2 * e) 0 = nI s := (hu 19 _ 0 (by decide) (by decide) (Or.inr (show 2 * e / 8 = 0 by omega))).trans g1
      have q2 : μ1.1 19 (2 * e) 1 = nI r := (hu 19 _ 1 (by decide) (by decide) (Or.inr (show 2 * e / 8 = 0 by omega))).trans g2
      have q3 : μ1.1 19 (2 * e) 2 = nI hh := (hu 19 _ 2 (by decide) (by decide) (Or.inr (show 2 * e / 8 = 0 by omega))).trans g3
      have m1 : tN ν1 (560 + 35 * e + 11) = nI s := (hw _).trans g4
      rw [if_pos hf, if_pos rfl, if_pos rfl, e1, e2, bnd_some, bnd_some, c_append q1 q2 q3 hf hr8 h8, m_append he m1 (by omega), bnd_some, bnd_some, show (11 : Int32) = nI 11 from rfl, r_of (by omega), bnd_some]
      have tA : tN (appM e s v ν1) (560 + 35 * e + 11) = nI (s + 1) := wI_same
      have tO : ∀ k, k ≠ 560 + 35 * e + 11 → k ≠ 560 + 35 * e + (13 + s) → (appM e s v ν1).1 27 0 k = ν1.1 27 0 k := fun k a b => by
        unfold appM; rw [wI_at, if_neg (fun q => a q.2.2), wI_at, if_neg (fun q => b q.2.2)]
      have tB : (appM e s v ν1).1 27 0 (560 + 35 * e + (13 + s)) = v := by
        unfold appM; rw [wI_at, if_neg (by omega)]; exact wI_same
      have cO : ∀ κ n k, ¬ ((κ = 19 ∨ κ = 20) ∧ n = 2 * e) → (appC (2 * e) s hh v μ1).1 κ n k = μ1.1 κ n k := fun κ n k q => by
        unfold appC; rw [wI_at, if_neg (fun z => q ⟨Or.inl z.1, z.2.1⟩), wI_at, if_neg (fun z => q ⟨Or.inr z.1, z.2.1⟩)]
      have mO : ∀ κ n k, κ ≠ 27 → (appM e s v ν1).1 κ n k = ν1.1 κ n k := fun κ n k q => by
        unfold appM; rw [wI_at, if_neg (fun z => q z.1), wI_at, if_neg (fun z => q z.1)]
      have s8 : μ1.1 8 (4 * p + e) 0 = 1 := (hu 8 _ 0 (by decide) (by decide) (Or.inl rfl)).trans c
      obtain ⟨s', hh', r', _, _, _, z1, z2, z3, z4, z5, z6⟩ := (rel2_engine h1 he s8).2.2.2.2.2.2.2.2.1
      refine ⟨.inr ((appC (2 * e) s hh v μ1).1 19 (2 * e) 0), _, _, _, rfl, rfl, ⟨?_, ?_⟩, ?_, ⟨fun κ n k a b => ?_, fun κ n k a => k1.2 κ n k a⟩, ⟨fun κ n k a => ?_, fun κ n k a => k2.2 κ n k a⟩⟩
      · rw [mO _ _ _ (by decide)]; exact ht
      · rw [tA]; exact wI_same.symm
      · refine rel2_upd h1 (fun κ n k hk hn => cO κ n k ?_) rfl (fun n k _ => mO _ _ _ (by decide)) (fun n k => mO _ _ _ (by decide)) (fun n k hn => ?_) (fun k hk => tO k (by omega) (by omega)) ?_ (fun j hj => ?_) (fun j hj => ?_)
        · rintro ⟨h9 | h9, rfl⟩ <;> subst h9 <;> exact hn.elim (by decide) (fun q => q (show 2 * e / 8 = 0 by omega))
        · unfold appM; rw [wI_at, if_neg (fun q => hn q.2.1), wI_at, if_neg (fun q => hn q.2.1)]
        · refine relM_q (t := 0) he (by decide) (fun κ n k q => cO κ n k (fun z => q ⟨z.1, by omega⟩)) (fun k hk q => tO k (by omega) (by omega)) (fun _ => ?_) (rel2_now h1)
          refine relQ_append (w := fun k => tN ν1 (560 + 35 * e + (13 + k))) q1 q2 q3 hf hr8 h8 ?_ tA (fun k hk => ?_) (fun k hk => ?_) tB
          · exact (hw _).trans g5
          · have := g6 k hk
            exact (hw _).trans (this.trans (hu 20 _ _ (by decide) (by decide) (Or.inr (show 2 * e / 8 = 0 by omega))).symm)
          · exact tO _ (by omega) (by omega)
        · by_cases hj2 : j = 2 * e
          · subst hj2
            refine ⟨s + 1, hh, r, by omega, h8, hr8, wI_same, ?_, ?_⟩
            · unfold appC; rw [wI_at, if_neg (by omega), wI_at, if_neg (by omega)]; exact q2
            · unfold appC; rw [wI_at, if_neg (by omega), wI_at, if_neg (by omega)]; exact q3
          · obtain ⟨s, hh, r, a, b, c, d1, d2, d3⟩ := rel2_okQ h1 (show j < 104 by omega)
            exact ⟨s, hh, r, a, b, c, (cO _ _ _ (fun q => hj2 q.2)).trans d1, (cO _ _ _ (fun q => hj2 q.2)).trans d2, (cO _ _ _ (fun q => hj2 q.2)).trans d3⟩
        · rw [cO _ _ _ (by omega)]; exact rel2_z h1 (by omega)
      · rw [cO _ _ _ (by omega)]; exact k1.1 κ n k a b
      · rw [mO _ _ _ (by omega), k2.1 κ n k a, wI_at, if_neg (by omega)]
    · rw [if_neg hf, if_neg ne10, if_neg ne10]
      refine ⟨.inr (-2), μ, -2, wI ν 26 0 6 0, rfl, rfl, ⟨rfl, rfl⟩, h, kr_nil, ⟨fun κ n k hk => ?_, fun _ _ _ _ => rfl⟩⟩
      rw [wI_at, if_neg (by omega)]
