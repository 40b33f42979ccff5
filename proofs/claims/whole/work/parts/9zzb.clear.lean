/-! PARSING: clearing a program; the class's reading of all clauses -/
def clS (μ : Mem) (j : Nat) : Mem := wI (wI (wI (wI (wI (wI (wI (wI (wI (wI (wI (wI (wI (wI (wI (wI (wI (wI (wI (wI μ 8 j 0 0) 8 j 1 0) 8 j 2 0) 8 j 3 (-1)) 8 j 4 256) 8 j 5 0) 8 j 6 0) 8 j 7 0) 8 j 8 0) 8 j 9 0) 8 j 10 0) 8 j 11 0) 8 j 12 0) 8 j 13 0) 8 j 14 0) 8 j 15 0) 8 j 16 0) 8 j 17 32) 8 j 18 32) 8 j 19 4
theorem c_clS {μ : Mem} {j : Nat} : fX8_clear j μ = some ((), clS μ j) := by
  unfold fX8_clear
  simp only [nm_eq]
  rw [ckZ_ok (Or.inl rfl), ckZ_ok (Or.inl rfl), ckZ_ok (Or.inl rfl), ckZ_ok (Or.inl rfl), ckZ_ok (Or.inl rfl)]
  rfl
theorem clS_o {μ : Mem} {j κ a q : Nat} (h : ¬ (κ = 8 ∧ a = j)) : (clS μ j).1 κ a q = μ.1 κ a q := by
  have no : ∀ k, ¬ (κ = 8 ∧ a = j ∧ q = k) := fun k z => h ⟨z.1, z.2.1⟩
  unfold clS
  simp only [wI_o (no _)]
theorem clS_2 {μ : Mem} {j : Nat} : (clS μ j).2 = μ.2 := by
  unfold clS
  simp only [wI_2]
theorem clS_at {μ : Mem} {j : Nat} : ∀ k, k < 20 → (clS μ j).1 8 j k = clV k := by
  intro k hk
  unfold clS
  simp only [wI_at, true_and]
  unfold clV
  match k, hk with
  | 0, _ => rfl
  | 1, _ => rfl
  | 2, _ => rfl
  | 3, _ => rfl
  | 4, _ => rfl
  | 5, _ => rfl
  | 6, _ => rfl
  | 7, _ => rfl
  | 8, _ => rfl
  | 9, _ => rfl
  | 10, _ => rfl
  | 11, _ => rfl
  | 12, _ => rfl
  | 13, _ => rfl
  | 14, _ => rfl
  | 15, _ => rfl
  | 16, _ => rfl
  | 17, _ => rfl
  | 18, _ => rfl
  | 19, _ => rfl
  | n + 20, h => exact absurd h (by omega)
def FCl (s : Nat) (μ μ' : Mem) : Prop := (∀ κ a q, ¬ (κ = 5 ∧ a = s) → ¬ (κ = 8 ∧ 4 * s ≤ a ∧ a < 4 * s + 4) → μ'.1 κ a q = μ.1 κ a q) ∧ μ'.2 = μ.2
def Cld (s : Nat) (μ : Mem) : Prop := μ.1 5 s 0 = 0 ∧ μ.1 5 s 1 = 0 ∧ ∀ e, e < 4 → ∀ k, k < 20 → μ.1 8 (4 * s + e) k = clV k
theorem c_clearP {s : Nat} {μ : Mem} (fu : Nat) : ∃ μ', fX4_clear (fu + 5) s μ = some ((), μ') ∧ FCl s μ μ' ∧ Cld s μ' := by
  unfold fX4_clear
  simp only [jn_eq, nm_eq]
  refine (lp_ind (P := fun d (f : Mem → Int32 → Option (Unit × Mem)) => ∀ y μ1, y + d = 4 → FCl s μ μ1 → μ1.1 5 s 0 = 0 → μ1.1 5 s 1 = 0 → (∀ e, e < y → ∀ k, k < 20 → μ1.1 8 (4 * s + e) k = clV k) → ∃ μ', f μ1 (nI y) = some ((), μ') ∧ FCl s μ μ' ∧ Cld s μ') (fun f y μ1 hy hf h5 h6 hc => ?_) (fun d f ih y μ1 hy hf h5 h6 hc => ?_) 4 fu) 0 _ rfl ⟨fun κ a q z w => by rw [wI_o (by omega), wI_o (by omega)], rfl⟩ ?_ ?_ (fun e he => absurd he (by omega))
  · refine ⟨μ1, ?_, hf, h5, h6, fun e he => hc e (by omega)⟩
    rw [if_pos (show (4 : Int32) ≤ nI y from (nI_leI (a := 4) (by decide) (by omega)).2 (by omega))]
  · rw [if_neg (show ¬ (4 : Int32) ≤ nI y from fun z => absurd ((nI_leI (a := 4) (by decide) (by omega)).1 z) (by omega)), ckI_nI (show y < 4 by omega) (by decide), nI_clamp (n := y) (by omega), c_clS, bnd_some, nI_1]
    refine ih (y + 1) _ (by omega) ⟨fun κ a q z w => by rw [clS_o (by omega)]; exact hf.1 κ a q z w, clS_2.trans hf.2⟩ (by rw [clS_o (by omega)]; exact h5) (by rw [clS_o (by omega)]; exact h6) (fun e he k hk => ?_)
    by_cases g : e = y
    · subst g; exact clS_at k hk
    · rw [clS_o (by omega)]; exact hc e (by omega) k hk
  · rw [wI_o (by omega), wI_same]
  · exact wI_same
theorem c_clauses {s fu : Nat} {μ : Mem} (hs : s < 2) (hr : μ.2.1 10 0 1 = s) : ∃ μ1, FCl s μ μ1 ∧ Cld s μ1 ∧ fX5_readClauses (fu + 5) 0 μ = lp (fun _ _ => none) (fu + 5) (cCl (fu + 5)) (wI μ1 2 0 6 0) 0 := by
  obtain ⟨μ1, e1, e2, e3⟩ := c_clearP (s := s) (μ := μ) fu
  refine ⟨μ1, e2, e3, ?_⟩
  unfold fX5_readClauses
  simp only [jn_eq]
  rw [nm_eq, hr, ckB_ok hs, e1, bnd_some]
  unfold fX11_rewind
  rw [nm_eq, bnd_some]
  unfold cCl cClause
  simp only [nm_eq, bnd_as, bnd_ite]
/-- at the beginning of a reading -/
theorem ic_start {N n s : Nat} {c : Nat → Int32} {M : Md} {μ ν : Mem} (hM : MV M) (hs : s < 2) (hL : LC N n c M.1 μ) (hr : μ.2.1 10 0 1 = s) (hS : SY μ) (hC : Cld s μ) (hl : μ.1 10 0 2 = 0 → μ.1 10 0 3 = 0) (h39 : ν.1 26 0 39 = 0) (hd : ∀ a, a < 700 → ν.1 27 1 a = if a = 2 then -1 else 0) : IC N n c s M 0 μ ν := by
  have nm : NM N c M.1 M.2 0 0 ν := ⟨h39, by decide, fun j hj => absurd hj (by omega)⟩
  have tt : TT M.1 ν = ν.1 27 1 := by unfold TT; rw [h39]; rfl
  refine ⟨hL, hr, hS, 0, 0, by omega, nm, ?_, ?_, fun z => ⟨0, fun _ => 0, fun _ => 0, fun _ => 0, fun _ => 0, ⟨hl z, by decide, fun i hi => absurd hi (by omega)⟩, fun a ha => absurd ha (by omega), fun i hi => absurd hi (by omega), fun i k _ hk => absurd hk (by omega), fun i hi => absurd hi (by omega), fun a ha => absurd ha (by omega)⟩⟩
  · rw [tt]
    have z0 : ∀ a, a < 700 → a ≠ 2 → ν.1 27 1 a = 0 := fun a ha hn => by rw [hd a ha, if_neg hn]
    refine ⟨by decide, z0 0 (by decide) (by decide), hC.1, fun a ha => absurd ha (by omega), fun a _ ha k hk => z0 _ (by omega) (by omega), fun e he => Or.inl ⟨fun k hk => z0 _ (by omega) (by omega), hC.2.2 e he⟩, fun q hq => ?_, fun a ha hb hc => hd a (by omega), fun a ha hb => z0 a hb (by omega)⟩
    rw [z0 _ (by omega) (by omega), hC.2.1, bt_0]; rfl
  · intro e he hx
    rw [tt, hd _ (by omega), if_neg (by omega)] at hx
    exact absurd hx (by decide)
