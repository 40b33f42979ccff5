/-- a loop with fuel enough, by the number of rounds that are left -/
theorem lp_ind {B : Type} {z : B} {b : B → B} {P : Nat → B → Prop} (h0 : ∀ f, P 0 (b f)) (hs : ∀ n f, P n f → P (n + 1) (b f)) : ∀ n fu, P n (lp z (fu + (n + 1)) b) := by
  intro n fu
  induction n with
  | zero => rw [show fu + (0 + 1) = fu + 1 from rfl, lp_succ]; exact h0 _
  | succ n ih => rw [show fu + (n + 1 + 1) = (fu + (n + 1)) + 1 from rfl, lp_succ]; exact hs n _ ih
/-- the mask of those i + 0 .. i + n - 1 that b holds of, on top of acc -/
def emask (b : Nat → Bool) : Int32 → Nat → Nat → Int32
  | acc, _, 0 => acc
  | acc, i, n + 1 => emask b (if b i then acc ||| ((1 : Int32) <<< (nI i &&& 31)) else acc) (i + 1) n
theorem shl0 {s : Int32} : (0 : Int32) <<< s = 0 := by simp
theorem or0 {x : Int32} : x ||| 0 = x := by simp
theorem ask_engines {p : Nat} {μ : Mem} (h : Rel p μ) (fu : Nat) : AskN p μ (fX12_engines (fu + 5) 0 μ) (fX13_engines (fu + 5) 0 μ) := by
  refine ⟨emask (fun i => decide (μ.1 8 (4 * p + i) 0 = 1)) 0 0 4, ?_, ?_, rel_thrown h⟩
  · unfold fX12_engines
    rw [nm_eq, h.1.2.1, ckB_ok h.1.1, bnd_eta]
    unfold fX4_engineMask
    rw [jn_eq]
    refine lp_ind (P := fun n (f : Mem → Int32 → Int32 → Option (Int32 × Mem)) => ∀ (i : Nat) (acc : Int32), i + n = 4 → f μ acc (nI i) = some (emask (fun i => decide (μ.1 8 (4 * p + i) 0 = 1)) acc i n, μ)) (fun f i acc hi => ?_) (fun n f ih i acc hi => ?_) 4 fu 0 0 rfl
    · simp only [show i = 4 by omega]
      exact if_pos (by decide)
    · simp only [jn_eq, nm_eq]
      rw [if_neg (show ¬ (4 : Int32) ≤ nI i from nI_ge (b := 4) (by omega) (by decide)), ckI_nI (by omega) (by decide), nI_clamp (by omega), nI_1]
      rcases rel_setup h (show i < 4 by omega) with ⟨a, _⟩ | ⟨a, _⟩
      · rw [if_pos a, ih (i + 1) _ (by omega)]
        show _ = some (emask _ (if decide (μ.1 8 (4 * p + i) 0 = 1) then _ else acc) (i + 1) n, μ)
        rw [a]; rfl
      · rw [if_neg (by rw [a]; decide), ih (i + 1) _ (by omega)]
        show _ = some (emask _ (if decide (μ.1 8 (4 * p + i) 0 = 1) then _ else acc) (i + 1) n, μ)
        rw [a]; rfl
  · unfold fX13_engines
    rw [jn_eq, nm_eq]
    refine lp_ind (P := fun n (f : Mem → Int32 → Int32 → Option (Int32 × Mem)) => ∀ (i : Nat) (acc : Int32), i + n = 4 → f (wI μ 26 0 6 0) acc (nI i) = some (emask (fun i => decide (μ.1 8 (4 * p + i) 0 = 1)) acc i n, wI μ 26 0 6 0)) (fun f i acc hi => ?_) (fun n f ih i acc hi => ?_) 4 fu 0 0 rfl
    · simp only [show i = 4 by omega]
      exact if_pos (by decide)
    · have e0 : fX13_setting 0 (nI i) 0 (wI μ 26 0 6 0) = some (tN μ (476 + 21 * i), wI μ 26 0 6 0) := r_setting (f := 0) (by omega)
      simp only [nm_eq]
      rw [if_neg (show ¬ (4 : Int32) ≤ nI i from nI_ge (b := 4) (by omega) (by decide)), e0, bnd_some, nI_1, ih (i + 1) _ (by omega)]
      show _ = some (emask _ (if decide (μ.1 8 (4 * p + i) 0 = 1) then _ else acc) (i + 1) n, _)
      rcases rel_setup h (show i < 4 by omega) with ⟨a, b⟩ | ⟨a, b⟩
      · rw [a, b, shl0, or0]; rfl
      · rw [a, b]; rfl
theorem rel_levels {p : Nat} {μ : Mem} (h : Rel p μ) : ∃ c : Nat, c ≤ 1000000 ∧ tN μ 1 = nI c ∧ μ.1 12 0 0 = nI c ∧ ∀ k, k < 64 → k < c → ∀ q, q < 16 → bt (tN μ (220 + k)) q = bt (μ.1 16 0 k) q := h.2.2.1.1
theorem ask_levelAt {p : Nat} {μ : Mem} (h : Rel p μ) (x y : Int32) : Ask p μ (fX12_levelAt 0 x y μ) (fX13_levelAt 0 x y μ) := by
  unfold fX12_levelAt fX13_levelAt
  simp only [jn_eq, nm_eq]
  rcases ix_cases x (n := 16) (by decide) with hx | ⟨q, hq, rfl⟩
  · rw [bad_pin hx, bndX_inl, m_isPin_bad hx, bnd_some, if_pos rfl, m_raise, bnd_some, wI_wI]
    exact ⟨_, _, _, rfl, rfl, rfl, rel_thrown h⟩
  · rw [ok_pin hq, bndX_inr, m_isPin_ok hq, bnd_some, if_neg ne10]
    rcases ix_cases y (n := 64) (by decide) with hy | ⟨k, hk, rfl⟩
    · rw [show (63 : Int32) = nI 63 from rfl, r_bad (by decide) hy, bnd_some, if_neg nn0, m_raise, bnd_some, wI_wI]
      refine ⟨.inl 1, _, _, ?_, rfl, rfl, rel_thrown h⟩
      by_cases h1 : y < 0
      · rw [if_pos h1]
      · rw [if_neg h1, if_neg (show ¬ y < 64 from Int32.not_lt.2 (hy.resolve_left h1))]
    · obtain ⟨c, hc, h1, h2, h3⟩ := rel_levels h
      rw [show (63 : Int32) = nI 63 from rfl, r_ok (by omega) (by decide), bnd_some, if_pos ne10, if_neg (nI_pos (by omega)), show (64 : Int32) = nI 64 from rfl, if_pos (nI_lt hk (by decide)), h2, show (1 : Int32) = nI 1 from rfl, ckI_nI (by decide) (by decide), nI_clamp (by decide), show (wI μ 26 0 6 0).1 27 0 1 = nI c from h1]
      by_cases hkc : k < c
      · have hm : (c - 1 - k) % 64 < 64 := Nat.mod_lt _ (by decide)
        have hm2 : (c - 1 - k) % 64 ≤ c - 1 - k := Nat.mod_le _ _
        rw [pk_sub (show 1 ≤ c by omega), pk_sub (show k ≤ c - 1 by omega), if_pos (nI_pos' (by omega)), if_pos (nI_pos' (by omega)), ckD_ok (by decide), remN (by omega) (by decide) (by decide), show (220 : Int32) = nI 220 from rfl, nI_add, ckI_nI (by simp; omega) (by decide), nI_clamp (by omega)]
        unfold fX3_levelsAfter
        rw [jn_eq, if_pos (nI_pos' (by omega)), show (64 : Int32) = nI 64 from rfl, ckD_ok (by decide), remN (by omega) (by decide) (by decide), ckI_nI hm (by decide), nI_clamp (by omega), bnd_some]
        have e1 : ∀ z : Int32, (z >>> (nI q &&& 31)) &&& nI 1 = b2 (bt z q) := fun z => bit_at (by omega)
        rw [e1, e1]
        refine ⟨_, _, _, rfl, rfl, ⟨rfl, ?_⟩, rel_thrown h⟩
        exact congrArg b2 (h3 _ hm (by omega) q hq)
      · have hneg : ¬ (0 : Int32) ≤ nI c - nI 1 - nI k := by
          have e : nI c - nI 1 - nI k = nI c - nI (1 + k) := by rw [← nI_add]; grind
          rw [e]
          exact Int32.not_le.2 (pk_sneg (by omega) (by omega))
        rw [if_neg hneg, if_neg hneg]
        exact ⟨_, _, _, rfl, rfl, ⟨rfl, rfl⟩, rel_thrown h⟩
