/-! what a tick reads and doesn't write: the program, the settings, the levels and flags of this cycle -/
def relS1 (μ : Mem) (j cnt : Nat) (S : Nat → Int32) : Prop :=
  μ.1 8 j 0 = 1 ∧ S 0 = 1 ∧
  (∃ n : Nat, n < cnt ∧ S 1 = nI n ∧ μ.1 8 j 1 = nI n) ∧ (∃ n : Nat, 256 ≤ n ∧ n < 65536 ∧ S 2 = nI n ∧ μ.1 8 j 4 = nI n) ∧
  ((S 4 = -1 ∧ μ.1 8 j 3 = -1) ∨ ∃ n : Nat, n < cnt ∧ S 4 = nI n ∧ μ.1 8 j 3 = nI n) ∧ (∃ n : Nat, n < cnt ∧ S 3 = nI n ∧ μ.1 8 j 2 = nI n) ∧
  (∀ g, g < 3 → ∃ b s : Nat, b < 16 ∧ s ≤ 16 ∧ S (5 + 2 * g) = nI b ∧ S (6 + 2 * g) = nI s ∧ μ.1 8 j (5 + 2 * g) = nI b ∧ ∀ q, q < 32 → bt (μ.1 8 j (6 + 2 * g)) q = (decide (q < 16) && grpM b s q)) ∧
  (∃ n : Nat, n < 16 ∧ S 11 = nI n ∧ μ.1 8 j 11 = nI n) ∧ (∃ n : Nat, n < 16 ∧ S 12 = nI n ∧ μ.1 8 j 12 = nI n) ∧
  (S 13 = μ.1 8 j 13 ∧ (S 13 = 0 ∨ S 13 = 1)) ∧ (S 14 = μ.1 8 j 14 ∧ (S 14 = 0 ∨ S 14 = 1)) ∧ (S 16 = μ.1 8 j 15 ∧ (S 16 = 0 ∨ S 16 = 1)) ∧ (S 18 = μ.1 8 j 16 ∧ (S 18 = 0 ∨ S 18 = 1)) ∧
  (∃ n : Nat, 1 ≤ n ∧ n ≤ 32 ∧ S 15 = nI n ∧ μ.1 8 j 17 = nI n) ∧ (∃ n : Nat, 1 ≤ n ∧ n ≤ 32 ∧ S 17 = nI n ∧ μ.1 8 j 18 = nI n) ∧
  (∃ n : Nat, n ≤ 8 ∧ S 19 = nI n ∧ S 20 = nI (8 - n) ∧ μ.1 8 j 19 = nI n)
theorem relS_1 {μ : Mem} {j cnt : Nat} {S : Nat → Int32} (h : relS μ j cnt S) (h1 : μ.1 8 j 0 = 1) : relS1 μ j cnt S := h.elim (fun q => absurd (q.1.symm.trans h1) (by decide)) id
def BS (p i e cnt : Nat) (μ ν : Mem) : Prop :=
  (p < 2 ∧ i < 13 ∧ e < 4 ∧ μ.2.1 22 0 0 = p ∧ μ.2.1 22 0 1 = i) ∧ (0 < cnt ∧ cnt ≤ 32 ∧ tN ν 0 = nI cnt ∧ μ.1 5 p 0 = nI cnt) ∧
  (∀ a, a < cnt → relI μ (33 * p + a) cnt (fun k => tN ν (284 + 6 * a + k))) ∧ relS1 μ (4 * p + e) cnt (fun k => tN ν (476 + 21 * e + k)) ∧
  (∀ q, q < 16 → ν.1 28 0 q = b2 (bt (μ.1 22 0 2) q)) ∧ ∀ f, f < 8 → ν.1 28 1 f = b2 (bt (μ.1 22 0 3) f)
theorem sw_at {α : Type} {a : Nat} {v : Int32} {k : Int32 → Option α} (h : (¬ (syO.getD a 0 < 0 ∨ 74 ≤ (syO.getD a 0).toNatClampNeg)) ∧ smL.getD (syO.getD a 0).toNatClampNeg 0 = v) : ckI (syO.getD a 0) 74 (nm (smL.getD (syO.getD a 0).toNatClampNeg 0) k) = k v := by
  unfold ckI
  rw [if_pos h.1, h.2]; rfl
section
variable {p i e cnt : Nat} {nx : Int32} {μ0 ν0 μ ν : Mem} {w : Bool}
theorem rt_8 (h : RT i e cnt nx μ0 ν0 μ ν w) {n k : Nat} : μ.1 8 n k = μ0.1 8 n k := h.2.1 8 n k (by unfold WC; omega)
theorem rt_9 (h : RT i e cnt nx μ0 ν0 μ ν w) {n k : Nat} : μ.1 9 n k = μ0.1 9 n k := h.2.1 9 n k (by unfold WC; omega)
theorem rt_5 (h : RT i e cnt nx μ0 ν0 μ ν w) {n k : Nat} : μ.1 5 n k = μ0.1 5 n k := h.2.1 5 n k (by unfold WC; omega)
theorem rt_lv (h : RT i e cnt nx μ0 ν0 μ ν w) : μ.1 22 0 2 = μ0.1 22 0 2 := h.2.1 22 0 2 (by unfold WC; omega)
theorem rt_fl (h : RT i e cnt nx μ0 ν0 μ ν w) : μ.1 22 0 3 = μ0.1 22 0 3 := h.2.1 22 0 3 (by unfold WC; omega)
theorem rt_r (h : RT i e cnt nx μ0 ν0 μ ν w) {κ n k : Nat} : μ.2.1 κ n k = μ0.2.1 κ n k := by rw [h.1.1]
theorem rt_S (h : RT i e cnt nx μ0 ν0 μ ν w) (he : e < 4) {f : Nat} (hf : f < 21) : tN ν (476 + 21 * e + f) = tN ν0 (476 + 21 * e + f) := h.2.2.1 27 0 _ (by unfold WM; omega)
theorem rt_P (h : RT i e cnt nx μ0 ν0 μ ν w) {a f : Nat} (ha : a < 32) (hf : f < 6) : tN ν (284 + 6 * a + f) = tN ν0 (284 + 6 * a + f) := h.2.2.1 27 0 _ (by unfold WM; omega)
theorem rt_T0 (h : RT i e cnt nx μ0 ν0 μ ν w) : tN ν 0 = tN ν0 0 := h.2.2.1 27 0 _ (by unfold WM; omega)
theorem rt_L (h : RT i e cnt nx μ0 ν0 μ ν w) {n k : Nat} (hn : n < 2) : ν.1 28 n k = ν0.1 28 n k := h.2.2.1 28 _ _ (by unfold WM; omega)
theorem rt_pn (h : RT i e cnt nx μ0 ν0 μ ν w) : ν.1 26 0 18 = ν0.1 26 0 18 := h.2.2.1 26 0 18 (by unfold WM; omega)
theorem rt_get (h : RT i e cnt nx μ0 ν0 μ ν w) {k : Nat} (hk : k < 10) : tN ν (560 + 35 * e + (k + 1)) = μ.1 18 (4 * i + e) k := h.2.2.2.1.2.2.1 k hk
theorem rt_of (h : RT i e cnt nx μ0 ν0 μ ν w) (he : e < 4) {k : Nat} (hk : k < 10) : fX13_of 0 (nI e) (nI (k + 1)) ν = some (μ.1 18 (4 * i + e) k, ν) := by rw [r_of (by omega), rt_get h hk]
theorem of1 (h : RT i e cnt nx μ0 ν0 μ ν w) (he : e < 4) : fX13_of 0 (nI e) 1 ν = some (μ.1 18 (4 * i + e) 0, ν) := rt_of h he (k := 0) (by decide)
theorem of2 (h : RT i e cnt nx μ0 ν0 μ ν w) (he : e < 4) : fX13_of 0 (nI e) 2 ν = some (μ.1 18 (4 * i + e) 1, ν) := rt_of h he (k := 1) (by decide)
theorem of3 (h : RT i e cnt nx μ0 ν0 μ ν w) (he : e < 4) : fX13_of 0 (nI e) 3 ν = some (μ.1 18 (4 * i + e) 2, ν) := rt_of h he (k := 2) (by decide)
theorem of4 (h : RT i e cnt nx μ0 ν0 μ ν w) (he : e < 4) : fX13_of 0 (nI e) 4 ν = some (μ.1 18 (4 * i + e) 3, ν) := rt_of h he (k := 3) (by decide)
theorem of5 (h : RT i e cnt nx μ0 ν0 μ ν w) (he : e < 4) : fX13_of 0 (nI e) 5 ν = some (μ.1 18 (4 * i + e) 4, ν) := rt_of h he (k := 4) (by decide)
theorem of6 (h : RT i e cnt nx μ0 ν0 μ ν w) (he : e < 4) : fX13_of 0 (nI e) 6 ν = some (μ.1 18 (4 * i + e) 5, ν) := rt_of h he (k := 5) (by decide)
theorem of7 (h : RT i e cnt nx μ0 ν0 μ ν w) (he : e < 4) : fX13_of 0 (nI e) 7 ν = some (μ.1 18 (4 * i + e) 6, ν) := rt_of h he (k := 6) (by decide)
theorem of8 (h : RT i e cnt nx μ0 ν0 μ ν w) (he : e < 4) : fX13_of 0 (nI e) 8 ν = some (μ.1 18 (4 * i + e) 7, ν) := rt_of h he (k := 7) (by decide)
theorem of9 (h : RT i e cnt nx μ0 ν0 μ ν w) (he : e < 4) : fX13_of 0 (nI e) 9 ν = some (μ.1 18 (4 * i + e) 8, ν) := rt_of h he (k := 8) (by decide)
theorem of11 (h : RT i e cnt nx μ0 ν0 μ ν w) (he : e < 4) : fX13_of 0 (nI e) 11 ν = some (μ.1 19 (2 * (4 * i + e)) 0, ν) := by
  obtain ⟨s, hh, r, b1, b2, b3, b4, b5, b6, b7, b8, b9⟩ := rt_inq h
  rw [show (11 : Int32) = nI 11 from rfl, r_of (by omega), b7, b4]
theorem of12 (h : RT i e cnt nx μ0 ν0 μ ν w) (he : e < 4) : fX13_of 0 (nI e) 12 ν = some (μ.1 19 (2 * (4 * i + e) + 1) 0, ν) := by
  obtain ⟨s, hh, r, b1, b2, b3, b4, b5, b6, b7, b8, b9⟩ := rt_outq h
  rw [show (12 : Int32) = nI 12 from rfl, r_of (by omega), b7, b4]
theorem st_of (h : RT i e cnt nx μ0 ν0 μ ν w) (he : e < 4) {f : Nat} {v : Int32} (hf : f < 21) (hv : tN ν0 (476 + 21 * e + f) = v) : fX13_setting 0 (nI e) (nI f) ν = some (v, ν) := by rw [r_setting (by omega), rt_S h he hf, hv]
theorem cd_of (h : RT i e cnt nx μ0 ν0 μ ν w) (he : e < 4) {a f : Nat} {v : Int32} (ha : a < 32) (hf : f < 6) (hp : μ.1 18 (4 * i + e) 0 = nI a) (hv : tN ν0 (284 + 6 * a + f) = v) : fX13_codeOf 0 (nI e) (nI f) ν = some (v, ν) := by
  unfold fX13_codeOf
  rw [of1 h he, bnd_some, hp, r_code (by omega), bnd_some, rt_P h ha hf, hv]
theorem plS_at {c s : Nat} (h : isPl c s) : (c = 0 ∧ s = 51) ∨ (c = 1 ∧ s = 52) ∨ (c = 2 ∧ s = 53) ∨ (c = 3 ∧ s = 54) ∨ (c = 4 ∧ s = 55) ∨ (c = 5 ∧ s = 56) ∨ (c = 6 ∧ s = 59) ∨ (c = 7 ∧ s = 57) ∨ (c = 8 ∧ s = 58) := by
  obtain ⟨h1, h2⟩ := h
  have : c = 0 ∨ c = 1 ∨ c = 2 ∨ c = 3 ∨ c = 4 ∨ c = 5 ∨ c = 6 ∨ c = 7 ∨ c = 8 := by omega
  rcases this with h | h | h | h | h | h | h | h | h <;> subst h <;> subst h2 <;> decide
/-- the pin value -/
theorem m_pinValue (B : BS p i e cnt μ0 ν0) (h : RT i e cnt nx μ0 ν0 μ ν w) (fu : Nat) : fX13_pinValue (fu + 17) 0 (nI e) ν = some (rotP (μ0.1 22 0 2) ((16 : Int32) - μ0.1 8 (4 * p + e) 11), ν) := by
  obtain ⟨⟨_, _, he, _, _⟩, _, _, hS, hL, _⟩ := B
  obtain ⟨b, hb, b1, b2'⟩ := hS.2.2.2.2.2.2.2.1
  have es : fX13_setting 0 (nI e) 11 ν = some (nI b, ν) := st_of h he (f := 11) (by decide) b1
  unfold fX13_pinValue
  rw [jn_eq, b2', show (16 : Int32) = nI 16 from rfl, pk_sub (by omega)]
  refine lp_ind (P := fun n (f : Mem → Int32 → Int32 → Option (Int32 × Mem)) => ∀ (k : Nat) (acc : Int32), k + n = 16 → (∀ q, q < 32 → bt acc q = (decide (q < k) && bt (μ0.1 22 0 2) ((q + (16 - (16 - b))) % 16))) → f ν acc (nI k) = some (rotP (μ0.1 22 0 2) (nI (16 - b)), ν)) (fun f k acc hk ha => ?_) (fun n f ih k acc hk ha => ?_) 16 fu 0 0 rfl (fun i _ => by rw [bt_0]; simp)
  · have : k = 16 := by omega
    subst this
    rw [if_pos (by decide)]
    have : acc = rotP (μ0.1 22 0 2) (nI (16 - b)) := bt_ext fun q hq => by rw [ha q hq, bt_rot (by omega) hq]
    rw [this]
  · have hm : (b + k) % 16 < 16 := Nat.mod_lt _ (by decide)
    simp only [nm_eq]
    rw [if_neg (nI_ge (b := 16) (by omega) (by decide)), es, bnd_some, nI_add, ckD_ok (by decide), remN (by omega) (by decide) (by decide), ckI_nI (by exact hm) (by decide), nI_clamp (by omega), rt_L h (by decide), hL _ hm, nI_1]
    refine ih (k + 1) _ (by omega) fun q hq => ?_
    rw [bt_or, ha q hq, b2_shl (by omega) hq]
    by_cases hqk : q = k
    · subst hqk
      rw [decide_eq_false (by omega), decide_eq_true rfl, decide_eq_true (by omega), show (q + (16 - (16 - b))) % 16 = (b + q) % 16 by omega]; simp
    · by_cases h2 : q < k
      · rw [decide_eq_true h2, decide_eq_false hqk, decide_eq_true (by omega)]; simp
      · rw [decide_eq_false h2, decide_eq_false hqk, decide_eq_false (by omega)]; simp
theorem pr_source (B : BS p i e cnt μ0 ν0) (h : RT i e cnt nx μ0 ν0 μ ν w) {c s : Nat} (hp : isPl c s) (hc : c ≤ 6) (fu : Nat) : ∃ v, fX9_sourceWord 0 s (4 * i + e) (4 * p + e) μ = some (v, μ) ∧ fX13_source (fu + 17) 0 (nI e) (nI c) ν = some (v, ν) := by
  have he : e < 4 := B.1.2.2.1
  unfold fX9_sourceWord fX13_source
  simp only [jn_eq]
  rcases plS_at hp with ⟨rfl, rfl⟩ | ⟨rfl, rfl⟩ | ⟨rfl, rfl⟩ | ⟨rfl, rfl⟩ | ⟨rfl, rfl⟩ | ⟨rfl, rfl⟩ | ⟨rfl, rfl⟩ | ⟨rfl, rfl⟩ | ⟨rfl, rfl⟩
  · refine ⟨rotP (μ0.1 22 0 2) ((16 : Int32) - μ0.1 8 (4 * p + e) 11), (sw_at (v := 19) (by decide)).trans ?_, ?_⟩
    · rw [rt_lv h, rt_8 h, c_rot]; rfl
    · rw [if_pos (by decide), m_pinValue B h, bnd_some]
  · refine ⟨_, (sw_at (v := 20) (by decide)).trans rfl, ?_⟩
    rw [if_neg (by decide), if_pos (by decide), of2 h he]; rfl
  · refine ⟨_, (sw_at (v := 21) (by decide)).trans rfl, ?_⟩
    rw [if_neg (by decide), if_neg (by decide), if_pos (by decide), of3 h he]; rfl
  · refine ⟨_, (sw_at (v := 0) (by decide)).trans rfl, ?_⟩
    rw [if_neg (by decide), if_neg (by decide), if_neg (by decide), if_pos (by decide)]
  · refine ⟨_, (sw_at (v := 22) (by decide)).trans rfl, ?_⟩
    rw [if_neg (by decide), if_neg (by decide), if_neg (by decide), if_neg (by decide), if_pos (by decide), of4 h he]; rfl
  · refine ⟨_, (sw_at (v := 23) (by decide)).trans rfl, ?_⟩
    rw [if_neg (by decide), if_neg (by decide), if_neg (by decide), if_neg (by decide), if_neg (by decide), if_pos (by decide), of5 h he]; rfl
  · have em : ∀ v : Int32, (if ¬ μ.1 19 (2 * (4 * i + e)) 0 = 0 then (0 : Int32) else -1) = v → (if nI 6 = (0 : Int32) then bnd (fX13_pinValue (fu + 17) 0 (nI e) ν) fun x4 μ3 => some (x4, μ3) else if nI 6 = (1 : Int32) then bnd (fX13_of 0 (nI e) (2 : Int32) ν) fun x7 μ6 => some (x7, μ6) else if nI 6 = (2 : Int32) then bnd (fX13_of 0 (nI e) (3 : Int32) ν) fun x10 μ9 => some (x10, μ9) else if nI 6 = (3 : Int32) then some ((0 : Int32), ν) else if nI 6 = (4 : Int32) then bnd (fX13_of 0 (nI e) (4 : Int32) ν) fun x14 μ13 => some (x14, μ13) else if nI 6 = (5 : Int32) then bnd (fX13_of 0 (nI e) (5 : Int32) ν) fun x17 μ16 => some (x17, μ16) else if nI 6 = (6 : Int32) then bnd (fX13_of 0 (nI e) (11 : Int32) ν) fun x22 μ21 => if ¬ x22 = 0 then some ((0 : Int32), μ21) else some ((-1 : Int32), μ21) else some ((0 : Int32), ν)) = some (v, ν) := by
      intro v hv
      rw [if_neg (by decide), if_neg (by decide), if_neg (by decide), if_neg (by decide), if_neg (by decide), if_neg (by decide), if_pos (by decide), of11 h he, bnd_some, ← hv]
      by_cases h0 : μ.1 19 (2 * (4 * i + e)) 0 = 0
      · rw [if_neg (fun q => q h0), if_neg (fun q => q h0)]
      · rw [if_pos h0, if_pos h0]
    refine ⟨_, (sw_at (v := 24) (by decide)).trans ?_, em _ rfl⟩
    show (if ¬ μ.1 19 (2 * (4 * i + e)) 0 = 0 then _ else _) = _
    by_cases h0 : μ.1 19 (2 * (4 * i + e)) 0 = 0
    · rw [if_neg (fun q => q h0), if_neg (fun q => q h0)]
    · rw [if_pos h0, if_pos h0]
  · omega
  · omega
end
