/-! the relation looks at the first 700 numbers of a row alone -/
theorem relI_T {μ : Mem} {j cnt : Nat} {P P' : Nat → Int32} (h : ∀ k, k < 6 → P' k = P k) (q : relI μ j cnt P) : relI μ j cnt P' := by
  unfold relI at q ⊢
  simp only [h 0 (by decide), h 1 (by decide), h 2 (by decide), h 3 (by decide), h 4 (by decide), h 5 (by decide)]
  exact q
theorem relS_T {μ : Mem} {j cnt : Nat} {S S' : Nat → Int32} (h : ∀ k, k < 21 → S' k = S k) (q : relS μ j cnt S) : relS μ j cnt S' := by
  unfold relS at q ⊢
  rw [h 0 (by decide), h 1 (by decide), h 2 (by decide), h 3 (by decide), h 4 (by decide), h 11 (by decide), h 12 (by decide), h 13 (by decide), h 14 (by decide), h 15 (by decide), h 16 (by decide), h 17 (by decide), h 18 (by decide), h 19 (by decide), h 20 (by decide)]
  refine q.imp id fun ⟨x1, x2, x3, x4, x5, x6, xg, r⟩ => ⟨x1, x2, x3, x4, x5, x6, fun g hg => ?_, r⟩
  rw [h (5 + 2 * g) (by omega), h (6 + 2 * g) (by omega)]
  exact xg g hg
theorem relP_T {μ : Mem} {p : Nat} {T T' : Nat → Int32} (h : ∀ k, k < 700 → T' k = T k) (q : relP μ p T) : relP μ p T' := by
  obtain ⟨cnt, a, b, c, d, e⟩ := q
  exact ⟨cnt, a, (h 0 (by decide)).trans b, c, fun a ha => relI_T (fun k hk => h _ (by omega)) (d a ha), fun g hg => relS_T (fun k hk => h _ (by omega)) (e g hg)⟩
theorem relQ_T {μ : Mem} {j : Nat} {cnt cnt' room room' : Int32} {w w' : Nat → Int32} (h1 : cnt' = cnt) (h2 : room' = room) (h : ∀ k, k < 8 → w' k = w k) (q : relQ μ j cnt room w) : relQ μ j cnt' room' w' := by
  obtain ⟨s, hh, r, a, b, c, d, e, f, g, i, w0⟩ := q
  exact ⟨s, hh, r, a, b, c, d, e, f, h1.trans g, h2.trans i, fun k hk => (h k (by omega)).trans (w0 k hk)⟩
theorem relE_T {μ : Mem} {j : Nat} {a a' b b' : Int32} {F F' : Nat → Int32} (h1 : a' = a) (h2 : b' = b) (h : ∀ k, k < 35 → F' k = F k) (q : relE μ j a b F) : relE μ j a' b' F' := by
  obtain ⟨a1, a2, a3, a4, a5, a6, a7, a8, a9, a10⟩ := q
  refine ⟨(h 0 (by decide)).trans a1, ?_, fun k hk => (h _ (by omega)).trans (a3 k hk), fun k hk => (h _ (by omega)).trans (a4 k hk), ?_, ?_, ?_, ?_, relQ_T (h _ (by decide)) h1 (fun k hk => h _ (by omega)) a9, relQ_T (h _ (by decide)) h2 (fun k hk => h _ (by omega)) a10⟩
  · rw [h 0 (by decide)]; exact a2
  · rw [h 6 (by decide)]; exact a5
  · rw [h 7 (by decide)]; exact a6
  · rw [h 8 (by decide)]; exact a7
  · rw [h 9 (by decide)]; exact a8
theorem relM_T {μ : Mem} {i p : Nat} {T T' : Nat → Int32} (h : ∀ k, k < 700 → T' k = T k) (q : relM μ i p T) : relM μ i p T' := by
  obtain ⟨⟨c, hc, c1, c2, c3⟩, ⟨o1, o2⟩, hp, hf, hm, ⟨n, hn, n1, n2, n3⟩, he⟩ := q
  refine ⟨⟨c, hc, (h 1 (by decide)).trans c1, c2, fun k hk hkc q hq => ?_⟩, ?_, fun q hq => ?_, fun f hf' => (h _ (by omega)).trans (hf f hf'), fun a ha => (h _ (by omega)).trans (hm a ha), ⟨n, hn, (h 3 (by decide)).trans n1, n2, fun k hk => ?_⟩, fun e he4 h1 => ?_⟩
  · rw [h _ (by omega)]; exact c3 k hk hkc q hq
  · rw [h 2 (by decide)]; exact ⟨o1, o2⟩
  · obtain ⟨b1, b2, b3, b4, b5, b6⟩ := hp q hq
    exact ⟨(h _ (by omega)).trans b1, (h _ (by omega)).trans b2, (h _ (by omega)).trans b3, (h _ (by omega)).trans b4, (h _ (by omega)).trans b5, (h _ (by omega)).trans b6⟩
  · obtain ⟨c', q, l, b1, b2, b3, b4, b5, b6, b7⟩ := n3 k hk
    exact ⟨c', q, l, b1, b2, b3, (h _ (by omega)).trans b4, (h _ (by omega)).trans b5, (h _ (by omega)).trans b6, b7⟩
  · obtain ⟨a, b, cnt, d1, d2, d3, d4⟩ := he e he4 h1
    exact ⟨relE_T (h _ (by omega)) (h _ (by omega)) (fun k hk => h _ (by omega)) a, b, cnt, (h 0 (by decide)).trans d1, d2, (h _ (by omega)).trans d3, d4⟩
