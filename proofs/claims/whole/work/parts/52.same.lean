/-- machine m after is machine i before -/
def Same (μ μ' : Mem) (i m : Nat) : Prop :=
  (∀ k, (k < 6 ∨ k = 8 ∨ k = 10) → μ'.1 12 m k = μ.1 12 i k) ∧ (∀ k, k < 16 → μ'.1 13 m k = μ.1 13 i k) ∧ (∀ k, k < 32 → μ'.1 15 m k = μ.1 15 i k) ∧ (∀ k, k < 64 → μ'.1 16 m k = μ.1 16 i k) ∧
  (∀ t, t < 2 → ∀ k, k < 16 → μ'.1 17 (2 * m + t) k = μ.1 17 (2 * i + t) k) ∧
  (∀ e, e < 4 → (∀ k, k < 11 → μ'.1 18 (4 * m + e) k = μ.1 18 (4 * i + e) k) ∧ (∀ k, k < 6 → μ'.1 21 (4 * m + e) k = μ.1 21 (4 * i + e) k) ∧
    ∀ t, t < 2 → (∀ k, k < 3 → μ'.1 19 (2 * (4 * m + e) + t) k = μ.1 19 (2 * (4 * i + e) + t) k) ∧ (∀ k, k < 8 → μ'.1 20 (2 * (4 * m + e) + t) k = μ.1 20 (2 * (4 * i + e) + t) k))
theorem relQ_same {μ μ' : Mem} {j j' : Nat} {cnt room : Int32} {w : Nat → Int32} (h9 : ∀ k, k < 3 → μ'.1 19 j' k = μ.1 19 j k) (h0 : ∀ k, k < 8 → μ'.1 20 j' k = μ.1 20 j k) (h : relQ μ j cnt room w) : relQ μ' j' cnt room w := by
  obtain ⟨s, hh, r, a, b, c, d, e, f, g, i, w⟩ := h
  refine ⟨s, hh, r, a, b, c, (h9 0 (by decide)).trans d, (h9 1 (by decide)).trans e, (h9 2 (by decide)).trans f, g, i, fun k hk => ?_⟩
  rw [h0 _ (Nat.mod_lt _ (by decide))]
  exact w k hk
theorem relM_same {μ μ' : Mem} {i m p : Nat} {T : Nat → Int32} (s : Same μ μ' i m) (h8 : ∀ e, e < 4 → μ'.1 8 (4 * p + e) 0 = μ.1 8 (4 * p + e) 0) (h : relM μ i p T) : relM μ' m p T := by
  obtain ⟨s12, s13, s15, s16, s17, se⟩ := s
  obtain ⟨⟨c, hc, c1, c2, c3⟩, ⟨o1, o2⟩, hp, hf, hm, ⟨n, hn, n1, n2, n3⟩, he⟩ := h
  refine ⟨⟨c, hc, c1, (s12 0 (by decide)).trans c2, fun k hk hkc q hq => ?_⟩, ⟨?_, o2⟩, fun q hq => ?_, fun f hf' => ?_, fun a ha => ?_, ⟨n, hn, n1, (s12 8 (by decide)).trans n2, fun k hk => ?_⟩, fun e he4 h1 => ?_⟩
  · rw [s16 k hk]; exact c3 k hk hkc q hq
  · rw [s12 5 (by decide)]; exact o1
  · have := hp q hq
    unfold relPin at this ⊢
    have w0 := s17 0 (by decide) q hq
    have w1 := s17 1 (by decide) q hq
    rw [s12 1 (by decide), s12 2 (by decide), s12 3 (by decide), s12 10 (by decide), s12 0 (by decide), w1, show μ'.1 17 (2 * m) q = _ from w0]
    exact this
  · rw [s12 4 (by decide)]; exact hf f hf'
  · rw [s13 a ha]; exact hm a ha
  · obtain ⟨c', q, l, b1, b2, b3, b4, b5, b6, b7⟩ := n3 k hk
    exact ⟨c', q, l, b1, b2, b3, b4, b5, b6, (s15 k (by omega)).trans b7⟩
  · rw [h8 e he4] at h1
    obtain ⟨⟨a1, a2, a3, a4, a5, a6, a7, a8, a9, a10⟩, r⟩ := he e he4 h1
    obtain ⟨e18, e21, eq⟩ := se e he4
    refine ⟨⟨?_, a2, fun k hk => ?_, fun k hk => ?_, a5, a6, a7, a8, relQ_same (eq 0 (by decide)).1 (eq 0 (by decide)).2 a9, relQ_same (eq 1 (by decide)).1 (eq 1 (by decide)).2 a10⟩, r⟩
    · rw [e18 10 (by decide)]; exact a1
    · rw [e18 k (by omega)]; exact a3 k hk
    · rw [e21 k hk]; exact a4 k hk
/-- what a copied cell reads -/
theorem cp_in {τ : Nat → Nat → Nat} {S : Nat → Nat → Nat → Bool} {μ : Mem} {a b c n : Nat} (h : S a b c = true) (ht : τ a b = n) : (cpS τ S μ).1 a b c = μ.1 a n c := by
  show (if S a b c then μ.1 a (τ a b) c else μ.1 a b c) = _
  rw [if_pos h, ht]
theorem cp_out {m : Nat} {τ : Nat → Nat → Nat} {S : Nat → Nat → Nat → Bool} {μ : Mem} {a b c : Nat} (hS : Own m S) (h : wd a = 0 ∨ b / wd a ≠ m) : (cpS τ S μ).1 a b c = μ.1 a b c := by
  show (if S a b c then μ.1 a (τ a b) c else μ.1 a b c) = _
  refine if_neg fun q => ?_
  obtain ⟨q1, q2⟩ := hS a b c q
  exact h.elim q1 (fun h => h q2)
theorem up_I {S : Nat → Nat → Nat → Bool} {κ n k a b c : Nat} (h : S a b c = true) : adI S κ n k a b c = true := by unfold adI; rw [h]; rfl
theorem up_C {S : Nat → Nat → Nat → Bool} {κ n k a b c : Nat} (h : S a b c = true) : adC S κ n k a b c = true := by unfold adC; rw [h]; rfl
theorem in_I {S : Nat → Nat → Nat → Bool} {a b c : Nat} : adI S a b c a b c = true := by simp [adI]
theorem in_C {S : Nat → Nat → Nat → Bool} {a b c k : Nat} (h : c < k) : adC S a b k a b c = true := by simp [adC, h]
theorem up_Q {S : Nat → Nat → Nat → Bool} {n a b c : Nat} (h : S a b c = true) : adQ S n a b c = true := up_C (up_I (up_I (up_I h)))
theorem up_N {S : Nat → Nat → Nat → Bool} {n a b c : Nat} (h : S a b c = true) : adN S n a b c = true := up_I (up_I (up_I (up_I (up_I (up_I (up_I (up_I (up_I (up_I (up_I h))))))))))
theorem up_E {S : Nat → Nat → Nat → Bool} {n a b c : Nat} (h : S a b c = true) : adE S n a b c = true := up_C (up_Q (up_Q (up_N h)))
theorem up_B {m : Nat} {a b c : Nat} : ∀ e f, e ≤ f → sB m e a b c = true → sB m f a b c = true := by
  intro e f h
  induction h with
  | refl => exact id
  | step _ ih => exact fun q => up_E (ih q)
theorem up_S {m a b c : Nat} (h : sB m 4 a b c = true) : sC m a b c = true := up_C (up_C (up_C (up_I (up_C (up_I h)))))
theorem in_Q {S : Nat → Nat → Nat → Bool} {n c : Nat} (h : c < 3) : adQ S n 19 n c = true := by
  have : c = 0 ∨ c = 1 ∨ c = 2 := by omega
  rcases this with h | h | h <;> subst h
  · exact up_C (up_I (up_I in_I))
  · exact up_C (up_I in_I)
  · exact up_C in_I
theorem in_N {S : Nat → Nat → Nat → Bool} {n c : Nat} (h : c < 11) : adN S n 18 n c = true := by
  have : c = 0 ∨ c = 1 ∨ c = 2 ∨ c = 3 ∨ c = 4 ∨ c = 5 ∨ c = 6 ∨ c = 7 ∨ c = 8 ∨ c = 9 ∨ c = 10 := by omega
  rcases this with h | h | h | h | h | h | h | h | h | h | h <;> subst h <;> simp [adN, adI]
theorem in_S {m e a b c : Nat} (he : e < 4) (h : adE (sB m e) (4 * m + e) a b c = true) : sC m a b c = true := up_S (up_B (e + 1) 4 (by omega) h)
/-- a machine that has been copied is the same -/
theorem cp_same {μ : Mem} {i m : Nat} : Same μ (cpS (tau i) (sC m) μ) i m := by
  have t1 : ∀ {a : Nat}, wd a = 1 → tau i a m = i := fun {a} h => by unfold tau; rw [h]; omega
  refine ⟨fun k hk => cp_in ?_ (t1 rfl), fun k hk => cp_in ?_ (t1 rfl), fun k hk => cp_in ?_ (t1 rfl), fun k hk => cp_in ?_ (t1 rfl), fun t ht k hk => cp_in ?_ (show 2 * i + (2 * m + t) % 2 = _ by omega), fun e he => ⟨fun k hk => cp_in ?_ (show 4 * i + (4 * m + e) % 4 = _ by omega), fun k hk => cp_in ?_ (show 4 * i + (4 * m + e) % 4 = _ by omega), fun t ht => ⟨fun k hk => cp_in ?_ (show 8 * i + (2 * (4 * m + e) + t) % 8 = _ by omega), fun k hk => cp_in ?_ (show 8 * i + (2 * (4 * m + e) + t) % 8 = _ by omega)⟩⟩⟩
  · rcases hk with hk | hk | hk
    · refine up_S (up_B 0 4 (by decide) (up_C ?_))
      have : k = 0 ∨ k = 1 ∨ k = 2 ∨ k = 3 ∨ k = 4 ∨ k = 5 := by omega
      rcases this with h | h | h | h | h | h <;> subst h <;> simp [adI]
    · subst hk; exact up_C (up_C (up_C (up_I (up_C in_I))))
    · subst hk; exact up_C (up_C (up_C in_I))
  · exact up_S (up_B 0 4 (by decide) (show sA m 13 m k = true from in_C hk))
  · exact up_C (up_C (up_C (up_I (in_C hk))))
  · exact up_C (up_C (in_C hk))
  · have : t = 0 ∨ t = 1 := by omega
    rcases this with h | h <;> subst h
    · exact up_C (in_C hk)
    · exact in_C hk
  · exact in_S he (up_C (up_Q (up_Q (in_N hk))))
  · exact in_S he (in_C hk)
  · have : t = 0 ∨ t = 1 := by omega
    rcases this with h | h <;> subst h
    · exact in_S he (up_C (up_Q (in_Q hk)))
    · exact in_S he (up_C (in_Q hk))
  · have : t = 0 ∨ t = 1 := by omega
    rcases this with h | h <;> subst h
    · exact in_S he (up_C (up_Q (in_C hk)))
    · exact in_S he (up_C (in_C hk))
