theorem rel2_now {p : Nat} {μ ν : Mem} (h : Rel2 p μ ν) : relM μ 0 p (fun k => ν.1 27 0 k) := h.2.2.1
/-! promise 29: enable; v is a boolean -/
theorem op_enable {p : Nat} {μ ν : Mem} (h : Rel2 p μ ν) (x v : Int32) (hv : v = 0 ∨ v = 1) (fu gu : Nat) : Op p μ ν (fX12_enable (fu + 5) 0 x v μ) (fX13_enable (gu + 701) 0 x v ν) := by
  have h0 : Rel2 p μ (wI ν 26 0 6 0) := h
  obtain ⟨μ1, ν1, e1, e2, h1, k1, k2, ht, _, hr, hu, hw⟩ := both_remember h0
  unfold fX12_enable fX13_enable
  simp only [jn_eq, nm_eq]
  rcases eng2_cases h x with ⟨a, b⟩ | ⟨e, he, rfl, a, b, c⟩
  · rw [a, b, bndX_inl, bnd_some, if_pos rfl, if_neg (show ¬ (wI ν 26 0 6 1).1 26 0 6 = 0 by rw [wI_same]; decide)]
    refine ⟨.inl 1, μ, 0, wI ν 26 0 6 1, rfl, ckZ_ok (Or.inl rfl), rfl, h, kr_nil, ⟨fun κ n k hk => ?_, fun _ _ _ _ => rfl⟩⟩
    rw [wI_at, if_neg (by omega)]
  · have s8 : μ1.1 8 (4 * p + e) 0 = 1 := (hu 8 _ 0 (by decide) (by decide) (Or.inl rfl)).trans c
    have E := rel2_engine h1 he s8
    have eo : fX13_of 0 (nI e) 0 ν1 = some (tN ν1 (560 + 35 * e + 0), ν1) := r_of (f := 0) (by omega)
    have es : ∀ w, fX13_set 0 (nI e) 0 w ν1 = some ((), wI ν1 27 0 (560 + 35 * e + 0) w) := fun w => r_set (f := 0) (by omega)
    have ev : tN ν1 (560 + 35 * e + 0) = μ1.1 18 e 10 := E.1
    have hb := E.2.1
    rw [a, b, bndX_inr, bnd_some, if_neg ne10, ckB_ok (by omega), if_pos (show (wI ν 26 0 6 0).1 26 0 6 = 0 from wI_same), e1, e2, bnd_some, bnd_some, eo, bnd_some, ev, es, es, bnd_some, bnd_some, ckZ_ok hv]
    have hb' : μ1.1 18 e 10 = 0 ∨ μ1.1 18 e 10 = 1 := by rw [← ev]; exact hb
    refine ⟨.inr (μ1.1 18 e 10), wI μ1 18 e 10 v, μ1.1 18 e 10, wI ν1 27 0 (560 + 35 * e) v, ckZ_ok hb', ?_, ⟨?_, rfl⟩, ?_, ⟨fun κ n k a b => ?_, fun κ n k a => k1.2 κ n k a⟩, ⟨fun κ n k a => ?_, fun κ n k a => k2.2 κ n k a⟩⟩
    · rcases hb' with q | q <;> rcases hv with w | w <;> rw [q, w] <;> rfl
    · exact ht
    · refine rel2_upd h1 (fun κ n k hk hn => ?_) rfl (fun n k _ => ?_) (fun n k => ?_) (fun n k hn => ?_) (fun k hk => ?_) ?_ (fun j hj => rel2_okQ h1 (by omega)) (fun j hj => ?_)
      · rw [wI_at, if_neg]
        rintro ⟨rfl, rfl, rfl⟩
        exact hn.elim (by decide) (fun q => q (show n / 4 = 0 by omega))
      · rw [wI_at, if_neg (by omega)]
      · rw [wI_at, if_neg (by omega)]
      · rw [wI_at, if_neg (fun q => hn q.2.1)]
      · rw [wI_at, if_neg (by omega)]
      · rw [wT]; exact relM_en he hv (rel2_now h1)
      · rw [wI_at]
        split
        · exact hv
        · exact rel2_z h1 (by omega)
    · rw [wI_at, if_neg (by omega)]; exact k1.1 κ n k a b
    · rw [wI_at, if_neg (by omega), k2.1 κ n k a, wI_at, if_neg (by omega)]
