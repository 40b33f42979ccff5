theorem c_queue_bad {μ : Mem} {x y : Int32} (a : fX12_existingEngine 0 x μ = some (.inl 1, μ)) : fX12_existingQueue 0 x y μ = some (.inl 1, μ) := by
  unfold fX12_existingQueue
  rw [jn_eq, a, bndX_inl]
/-- the queue asked for: 0 is the one in, all else the one out -/
def qOf (e : Nat) (y : Int32) : Nat := if y = 0 then 2 * e else 2 * e + 1
theorem qOf_lt {e : Nat} (h : e < 4) {y : Int32} : qOf e y < 104 := by unfold qOf; split <;> omega
theorem c_queue_at {μ : Mem} {x y : Int32} {e : Nat} (he : e < 4) (a : fX12_existingEngine 0 x μ = some (.inr e, μ)) : fX12_existingQueue 0 x y μ = some (.inr (qOf e y), μ) := by
  unfold fX12_existingQueue
  rw [jn_eq, a, bndX_inr, ckB_ok (by omega)]
  unfold qOf
  by_cases h : y = 0
  · rw [if_pos h, if_pos h]
  · rw [if_neg h, if_neg h]
/-- what Rel says of the queue asked for -/
theorem relE_queue {μ : Mem} {e : Nat} {rin rout : Int32} {F : Nat → Int32} (c : relE μ e rin rout F) (y : Int32) : relQ μ (qOf e y) (if y = 0 then F 11 else F 12) (if y = 0 then rin else rout) (fun k => F ((if y = 0 then 13 else 21) + k)) := by
  unfold qOf
  by_cases h : y = 0
  · simp only [if_pos h]; exact c.2.2.2.2.2.2.2.2.1
  · simp only [if_neg h]; exact c.2.2.2.2.2.2.2.2.2
theorem ask_queueSize {p : Nat} {μ : Mem} (h : Rel p μ) (x y : Int32) : Ask p μ (fX12_queueSize 0 x y μ) (fX13_queueSize 0 x y μ) := by
  unfold fX12_queueSize fX13_queueSize
  simp only [jn_eq, bnd_eta]
  unfold fX13_tell
  simp only [nm_eq]
  rcases eng_cases h x with ⟨a, b⟩ | ⟨e, he, rfl, a, b, c⟩
  · rw [c_queue_bad a, b, bndX_inl, bnd_some, bnd_some, if_neg nn0, if_neg nn0, m_raise, bnd_some, wI_wI]
    exact ⟨_, _, _, rfl, ite_self _, rfl, rel_thrown h⟩
  · rw [c_queue_at he a, bndX_inr, ckB_ok (qOf_lt he), b, bnd_some, bnd_some, if_pos ne10, if_pos ne10, show (11 : Int32) = nI 11 from rfl, show (12 : Int32) = nI 12 from rfl, r_of (by omega), r_of (by omega), bnd_some, bnd_some]
    obtain ⟨s, hh, r, _, _, _, h1, _, _, h2, _⟩ := relE_queue c y
    rw [h1, ← h2]
    refine ⟨_, if y = 0 then tN μ (560 + 35 * e + 11) else tN μ (560 + 35 * e + 12), 0, rfl, ?_, ⟨rfl, rfl⟩, rel_thrown h⟩
    by_cases hy : y = 0
    · rw [if_pos hy, if_pos hy]; rfl
    · rw [if_neg hy, if_neg hy]; rfl
/-- questions that answer a long -/
def AnsL (x : Nat ⊕ Int64) (y : Int64) (t : Int32) : Prop := match x with
  | .inl k => t = nI k
  | .inr v => t = 0 ∧ y = v
def AskL (p : Nat) (μ : Mem) (fc : Option (RX Int64)) (fr : Option (Int64 × Mem)) : Prop :=
  ∃ x y t, fc = some (x, μ) ∧ fr = some (y, wI μ 26 0 6 t) ∧ AnsL x y t ∧ Rel p (wI μ 26 0 6 t)
theorem remN {a d : Nat} (ha : a < 2 ^ 31) (h0 : 0 < d) (hd : d < 2 ^ 31) : nI a - nI a / nI d * nI d = nI (a % d) := pk_rem ha h0 hd
theorem c_wordAt {μ : Mem} {j s hh k : Nat} (h1 : μ.1 19 j 0 = nI s) (h2 : μ.1 19 j 2 = nI hh) (hs : s ≤ 8) (hk : k < s) (hh8 : hh < 8) : fX7_wordAt j (nI k) μ = some (μ.1 20 j ((hh + k) % 8), μ) := by
  unfold fX7_wordAt
  simp only [jn_eq]
  have hm : (hh + k) % 8 < 8 := Nat.mod_lt _ (by decide)
  rw [if_neg (nI_pos (by omega)), h1, if_pos (nI_lt hk (by omega)), h2, nI_add, show (8 : Int32) = nI 8 from rfl, ckD_ok (by decide), remN (by omega) (by decide) (by decide), ckI_nI hm (by decide), nI_clamp (by omega)]
theorem ask_queued {p : Nat} {μ : Mem} (h : Rel p μ) (x y z : Int32) : AskL p μ (fX12_queued 0 x y z μ) (fX13_queued 0 x y z μ) := by
  unfold fX12_queued fX13_queued
  simp only [jn_eq, nm_eq]
  rcases eng_cases h x with ⟨a, b⟩ | ⟨e, he, rfl, a, b, c⟩
  · rw [c_queue_bad a, b, bndX_inl, bnd_some, if_pos rfl, m_raise, bnd_some, wI_wI]
    exact ⟨_, _, _, rfl, rfl, rfl, rel_thrown h⟩
  · rw [c_queue_at he a, bndX_inr, ckB_ok (qOf_lt he), b, bnd_some, if_neg ne10]
    by_cases hz : 0 ≤ z
    · rw [if_pos hz, if_pos hz]
      obtain ⟨s, hh, r, hs, hr, h8, h1, _, hd, h2, _, hw⟩ := relE_queue c y
      obtain ⟨k, hk, rfl⟩ := nI_of (Int32.not_lt.2 hz)
      rw [h1]
      by_cases hy : y = 0
      · simp only [if_pos hy] at h2 hw
        rw [if_pos hy, show (11 : Int32) = nI 11 from rfl, r_of (by omega), bnd_some, show tN (wI μ 26 0 6 0) (560 + 35 * e + 11) = nI s from h2]
        by_cases hks : k < s
        · rw [if_neg (nI_ge hks (by omega)), if_neg (nI_ge hks (by omega)), c_wordAt h1 hd (by omega) hks h8, bnd_some, if_neg ne10, if_pos hy, show (13 : Int32) = nI 13 from rfl, nI_add, r_of (by omega), bnd_some]
          refine ⟨_, _, _, rfl, rfl, ⟨rfl, ?_⟩, rel_thrown h⟩
          rw [← hw k hks]
          show ((tN μ (560 + 35 * e + (13 + k))).toInt64 &&& _) = _
          rfl
        · rw [if_pos (nI_le (by omega) (by omega)), if_pos (nI_le (by omega) (by omega)), if_pos trivial]
          exact ⟨_, _, _, rfl, rfl, ⟨rfl, rfl⟩, rel_thrown h⟩
      · simp only [if_neg hy] at h2 hw
        rw [if_neg hy, show (12 : Int32) = nI 12 from rfl, r_of (by omega), bnd_some, show tN (wI μ 26 0 6 0) (560 + 35 * e + 12) = nI s from h2]
        by_cases hks : k < s
        · rw [if_neg (nI_ge hks (by omega)), if_neg (nI_ge hks (by omega)), c_wordAt h1 hd (by omega) hks h8, bnd_some, if_neg ne10, if_neg hy, show (21 : Int32) = nI 21 from rfl, nI_add, r_of (by omega), bnd_some]
          refine ⟨_, _, _, rfl, rfl, ⟨rfl, ?_⟩, rel_thrown h⟩
          rw [← hw k hks]
          rfl
        · rw [if_pos (nI_le (by omega) (by omega)), if_pos (nI_le (by omega) (by omega)), if_pos trivial]
          exact ⟨_, _, _, rfl, rfl, ⟨rfl, rfl⟩, rel_thrown h⟩
    · rw [if_neg hz, if_neg hz, m_raise, bnd_some, wI_wI]
      exact ⟨_, _, _, rfl, rfl, rfl, rel_thrown h⟩
theorem ask_level {p : Nat} {μ : Mem} (h : Rel p μ) (x : Int32) : Ask p μ (fX12_level 0 x μ) (fX13_level 0 x μ) := by
  unfold fX12_level fX13_level
  rw [nm_eq]
  rcases ix_cases x (n := 16) (by decide) with hx | ⟨q, hq, rfl⟩
  · rw [bad_pin hx, bndX_inl, m_isPin_bad hx, bnd_some, if_neg nn0, m_raise, bnd_some, wI_wI]
    exact ⟨_, _, _, rfl, rfl, rfl, rel_thrown h⟩
  · have hp := rel_pin h hq
    have e1 : fX13_ofPin 0 (nI q) 1 (wI μ 26 0 6 0) = some (tN μ (4 + 6 * q + 1), wI μ 26 0 6 0) := r_ofPin (f := 1) (by omega)
    have e2 : fX13_ofPin 0 (nI q) 2 (wI μ 26 0 6 0) = some (tN μ (4 + 6 * q + 2), wI μ 26 0 6 0) := r_ofPin (f := 2) (by omega)
    have e0 : fX13_ofPin 0 (nI q) 0 (wI μ 26 0 6 0) = some (tN μ (4 + 6 * q + 0), wI μ 26 0 6 0) := r_ofPin (f := 0) (by omega)
    rw [ok_pin hq, bndX_inr, c_levels, bnd_some, bit_at (by omega), bt_lvl (by omega), m_isPin_ok hq, bnd_some, if_pos ne10]
    refine ⟨.inr (b2 (lvl μ 0 q)), b2 (lvl μ 0 q), 0, rfl, ?_, ⟨rfl, rfl⟩, rel_thrown h⟩
    unfold fX13_levelOf
    simp only [jn_eq]
    rw [e1, bnd_some, show tN μ (4 + 6 * q + 1) = _ from hp.2.1, b2_if, e0, e2, show tN μ (4 + 6 * q + 0) = _ from hp.1, show tN μ (4 + 6 * q + 2) = _ from hp.2.2.1]
    unfold lvl
    cases bt (μ.1 12 0 2) q <;> rfl
theorem ask_highTime {p : Nat} {μ : Mem} (h : Rel p μ) (x : Int32) : Ask p μ (fX12_highTime 0 x μ) (fX13_highTime 0 x μ) := by
  unfold fX12_highTime fX13_highTime
  rcases ix_cases x (n := 16) (by decide) with hx | ⟨q, hq, rfl⟩
  · rw [bad_pin hx, bndX_inl, m_tellPin_bad hx, bnd_some]
    exact ⟨_, _, _, rfl, rfl, rfl, rel_thrown h⟩
  · rw [ok_pin hq, bndX_inr, show (5 : Int32) = nI 5 from rfl, m_tellPin_ok hq (by decide), bnd_some, show tN μ (4 + 6 * q + 5) = _ from (rel_pin h hq).2.2.2.2.2]
    unfold fX3_highCycles
    simp only [jn_eq]
    rw [bit_at (by omega), b2_if, ckI_nI hq (by decide), ckI_nI hq (by decide), nI_clamp (by omega)]
    cases bt (μ.1 12 0 10) q
    · exact ⟨_, _, _, rfl, rfl, ⟨rfl, rfl⟩, rel_thrown h⟩
    · exact ⟨_, _, _, rfl, rfl, ⟨rfl, rfl⟩, rel_thrown h⟩
