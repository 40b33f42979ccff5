/-- the model takes the first word of a queue: y = 0 the one in, else the one out -/
theorem m_first {ν : Mem} {e s : Nat} {y : Int32} {B C : Nat} (he : e < 4) (hBC : (y = 0 ∧ B = 13 ∧ C = 11) ∨ (¬ y = 0 ∧ B = 21 ∧ C = 12)) (h1 : tN ν (560 + 35 * e + C) = nI s) (h0 : 0 < s) (hs : s ≤ 8) (fu : Nat) :
    fX13_removeFirst (fu + 8) 0 (nI e) y ν = some (tN ν (560 + 35 * e + B), wI (shQ e B (s - 1) ν) 27 0 (560 + 35 * e + C) (nI (s - 1))) := by
  have go : ∀ {B C : Nat}, (B = 13 ∧ C = 11) ∨ (B = 21 ∧ C = 12) → tN ν (560 + 35 * e + C) = nI s → ∀ w : Int32, ∀ g : Nat,
      lp (fun _ _ _ _ => none) (g + (s - 1 + 1)) (fun (j36 : Mem → Int32 → Int32 → Int32 → Option (Int32 × Mem)) (μ6 : Mem) (x7 : Int32) (x8 : Int32) (x9 : Int32) =>
        bnd (fX13_of 0 (nI e) x7 μ6) fun x11 μ10 =>
        if x11 ≤ x9 then (
          bnd (fX13_add 0 (nI e) x7 (-1 : Int32) μ10) fun _ μ13 =>
          some (x8, μ13)
        ) else (
          bnd (fX13_of 0 (nI e) (nI B + x9) μ10) fun x15 μ14 =>
          bnd (fX13_set 0 (nI e) ((nI B + x9) - (1 : Int32)) x15 μ14) fun _ μ16 =>
          nm (x9 + (1 : Int32)) fun x17 =>
          j36 μ16 x7 x8 x17
        )) (shQ e B 0 ν) (nI C) w (nI (0 + 1)) = some (w, wI (shQ e B (s - 1) ν) 27 0 (560 + 35 * e + C) (nI (s - 1))) := by
    intro B C hB h1 w g
    have hC : ∀ x, x ≤ s - 1 → tN (shQ e B x ν) (560 + 35 * e + C) = nI s := fun x hx => by
      show (if 27 = 27 ∧ 0 = 0 ∧ 560 + 35 * e + B ≤ 560 + 35 * e + C ∧ 560 + 35 * e + C < 560 + 35 * e + B + x then _ else _) = _
      rw [if_neg (by omega)]; exact h1
    refine lp_ind (P := fun n (f : Mem → Int32 → Int32 → Int32 → Option (Int32 × Mem)) => ∀ x : Nat, x + n = s - 1 → f (shQ e B x ν) (nI C) w (nI (x + 1)) = some (w, wI (shQ e B (s - 1) ν) 27 0 (560 + 35 * e + C) (nI (s - 1)))) (fun f x hx => ?_) (fun n f ih x hx => ?_) (s - 1) g 0 (by omega)
    · have hx' : x = s - 1 := by omega
      subst hx'
      rw [r_of (by omega), bnd_some, hC _ (by omega), show s - 1 + 1 = s by omega, if_pos (nI_le (by omega) (by omega)), r_add (by omega), bnd_some, hC _ (by omega), show nI s + -1 = nI (s - 1) from by obtain ⟨r, rfl⟩ : ∃ r, s = r + 1 := ⟨s - 1, by omega⟩; exact pk_m1 r]
    · rw [r_of (by omega), bnd_some, hC _ (by omega), if_neg (nI_ge (by omega) (by omega)), nI_add, r_of (by omega), bnd_some, show B + (x + 1) = (B + x) + 1 by omega, nI_pred, r_set (by omega), bnd_some, nm_eq, nI_1, show 560 + 35 * e + (B + x + 1) = 560 + 35 * e + (B + x + 1) from rfl]
      rw [show tN (shQ e B x ν) (560 + 35 * e + (B + x + 1)) = (shQ e B x ν).1 27 0 (560 + 35 * e + (B + x + 1)) from rfl, shQ_step]
      exact ih (x + 1) (by omega)
  unfold fX13_removeFirst
  simp only [jn_eq]
  rcases hBC with ⟨hy, rfl, rfl⟩ | ⟨hy, rfl, rfl⟩
  · rw [if_pos hy, if_pos hy, show (13 : Int32) = nI 13 from rfl, r_of (by omega), bnd_some, show fu + 8 = (fu + (8 - s)) + (s - 1 + 1) by omega]
    have := go (Or.inl ⟨rfl, rfl⟩) h1 (tN ν (560 + 35 * e + 13)) (fu + (8 - s))
    rw [shQ_0] at this
    exact this
  · rw [if_neg hy, if_neg hy, show (21 : Int32) = nI 21 from rfl, r_of (by omega), bnd_some, show fu + 8 = (fu + (8 - s)) + (s - 1 + 1) by omega]
    have := go (Or.inr ⟨rfl, rfl⟩) h1 (tN ν (560 + 35 * e + 21)) (fu + (8 - s))
    rw [shQ_0] at this
    exact this
