/-! PARSING: the names that are laid at the end, on top of the draft -/
def layF (T : Nat → Int32) (tg : Nat → Nat) (v : Nat → Int32) : Nat → Nat → Int32
  | 0 => T
  | m + 1 => fun a => if a = tg m then v m else layF T tg v m a
theorem layF_w {T : Nat → Int32} {tg : Nat → Nat} {v : Nat → Int32} {p : Nat} {x : Int32} : ∀ m, (∀ j, j < m → tg j ≠ p) → layF (fun a => if a = p then x else T a) tg v m = fun a => if a = p then x else layF T tg v m a := by
  intro m
  induction m with
  | zero => intro _; rfl
  | succ m ih =>
    intro h
    funext a
    show (if a = tg m then v m else layF (fun a => if a = p then x else T a) tg v m a) = if a = p then x else if a = tg m then v m else layF T tg v m a
    rw [ih (fun j hj => h j (by omega))]
    by_cases e : a = tg m
    · rw [if_pos e, if_neg (fun z => h m (by omega) (e.symm.trans z)), if_pos e]
    · rw [if_neg e, if_neg e]
theorem layF_no {T : Nat → Int32} {tg : Nat → Nat} {v : Nat → Int32} {p : Nat} : ∀ m, (∀ j, j < m → tg j ≠ p) → layF T tg v m p = T p := by
  intro m
  induction m with
  | zero => intro _; rfl
  | succ m ih =>
    intro h
    show (if p = tg m then v m else layF T tg v m p) = T p
    rw [if_neg (fun z => h m (by omega) z.symm), ih (fun j hj => h j (by omega))]
theorem layF_c {T : Nat → Int32} {tg tg' : Nat → Nat} {v v' : Nat → Int32} : ∀ m, (∀ j, j < m → tg' j = tg j ∧ v' j = v j) → layF T tg' v' m = layF T tg v m := by
  intro m
  induction m with
  | zero => intro _; rfl
  | succ m ih =>
    intro h
    funext a
    show (if a = tg' m then v' m else layF T tg' v' m a) = if a = tg m then v m else layF T tg v m a
    rw [(h m (by omega)).1, (h m (by omega)).2, ih (fun j hj => h j (by omega))]
def nTg (ν : Mem) (j : Nat) : Nat := (ν.1 28 12 j).toNatClampNeg
def nVl (V : Nat → Option Nat) (ν : Mem) (j : Nat) : Int32 := nI ((V (ν.1 28 10 j).toNatClampNeg).getD 0)
/-- the draft with its names laid: what the class's reader holds -/
def TT (V : Nat → Option Nat) (ν : Mem) : Nat → Int32 := layF (ν.1 27 1) (nTg ν) (nVl V ν) (ν.1 26 0 39).toNatClampNeg
/-- the names noted so far: m of them; V knows their labels; B: a bound of the addresses; i0: instructions that may hold names -/
def NM (N : Nat) (c : Nat → Int32) (V : Nat → Option Nat) (B i0 m : Nat) (ν : Mem) : Prop :=
  ν.1 26 0 39 = nI m ∧ m ≤ 400 ∧ ∀ j, j < m → (∃ x a, x < N ∧ ν.1 28 10 j = nI x ∧ ν.1 28 11 j = nI (tkE c N x - x) ∧ V x = some a ∧ a < B) ∧
    ∃ g, ν.1 28 12 j = nI g ∧ ((∃ e, e < 4 ∧ (g = 476 + 21 * e + 1 ∨ g = 476 + 21 * e + 3 ∨ g = 476 + 21 * e + 4) ∧ ν.1 27 1 (476 + 21 * e) = 1) ∨ ∃ i, i < i0 ∧ i < 32 ∧ g = 284 + 6 * i + 2)
theorem tt_congr {V : Nat → Option Nat} {ν ν' : Mem} (e1 : ν'.1 27 1 = ν.1 27 1) (e2 : ν'.1 28 12 = ν.1 28 12) (e3 : ν'.1 28 10 = ν.1 28 10) (e4 : ν'.1 26 0 39 = ν.1 26 0 39) : TT V ν' = TT V ν := by
  unfold TT nTg nVl
  rw [e1, e2, e3, e4]
theorem nm_tg {N B i0 m j : Nat} {c : Nat → Int32} {V : Nat → Option Nat} {ν : Mem} (h : NM N c V B i0 m ν) (hj : j < m) : ∃ g, nTg ν j = g ∧ g < 700 ∧ ((∃ e, e < 4 ∧ (g = 476 + 21 * e + 1 ∨ g = 476 + 21 * e + 3 ∨ g = 476 + 21 * e + 4) ∧ ν.1 27 1 (476 + 21 * e) = 1) ∨ ∃ i, i < i0 ∧ i < 32 ∧ g = 284 + 6 * i + 2) := by
  obtain ⟨-, g, e, hg⟩ := h.2.2 j hj
  have lt : g < 700 := by
    rcases hg with ⟨e, he, hf, -⟩ | ⟨i, -, hi, hf⟩
    · omega
    · omega
  exact ⟨g, by unfold nTg; rw [e, nI_clamp (n := g) (by omega)], lt, hg⟩
theorem nm_cnt {N B i0 m : Nat} {c : Nat → Int32} {V : Nat → Option Nat} {ν : Mem} (h : NM N c V B i0 m ν) : (ν.1 26 0 39).toNatClampNeg = m := by rw [h.1, nI_clamp (n := m) (by have := h.2.1; omega)]
/-- a cell that no name is for -/
def nf (i0 p : Nat) (ν : Mem) : Prop := (∀ e, e < 4 → p = 476 + 21 * e + 1 ∨ p = 476 + 21 * e + 3 ∨ p = 476 + 21 * e + 4 → ν.1 27 1 (476 + 21 * e) ≠ 1) ∧ ∀ i, i < i0 → i < 32 → p ≠ 284 + 6 * i + 2
theorem nf_no {N B i0 m p : Nat} {c : Nat → Int32} {V : Nat → Option Nat} {ν : Mem} (h : NM N c V B i0 m ν) (hp : nf i0 p ν) : ∀ j, j < m → nTg ν j ≠ p := fun j hj z => by
  obtain ⟨g, e, -, hg⟩ := nm_tg h hj
  rw [e] at z
  rcases hg with ⟨e, he, hf, hx⟩ | ⟨i, h1, h2, hf⟩
  · exact hp.1 e he (by omega) hx
  · exact hp.2 i h1 h2 (by omega)
theorem tt_no {N B i0 m p : Nat} {c : Nat → Int32} {V : Nat → Option Nat} {ν : Mem} (h : NM N c V B i0 m ν) (hp : nf i0 p ν) : TT V ν p = ν.1 27 1 p := by
  unfold TT
  rw [nm_cnt h]
  exact layF_no m (nf_no h hp)
/-- the draft is written where no name is for -/
theorem tt_w {N B i0 m p : Nat} {x : Int32} {c : Nat → Int32} {V : Nat → Option Nat} {ν : Mem} (h : NM N c V B i0 m ν) (hp : nf i0 p ν) : TT V (wI ν 27 1 p x) = fun a => if a = p then x else TT V ν a := by
  have e : (wI ν 27 1 p x).1 27 1 = fun a => if a = p then x else ν.1 27 1 a := by
    funext a
    rw [wI_at]
    by_cases g : a = p
    · rw [if_pos ⟨rfl, rfl, g⟩, if_pos g]
    · rw [if_neg (fun z => g z.2.2), if_neg g]
  have c0 := nm_cnt h
  unfold TT
  rw [e, show (wI ν 27 1 p x).1 26 0 39 = ν.1 26 0 39 from wI_o (by omega), c0, show nTg (wI ν 27 1 p x) = nTg ν from rfl, show nVl V (wI ν 27 1 p x) = nVl V ν from rfl]
  exact layF_w m (nf_no h hp)
theorem nm_congr {N B i0 m : Nat} {c : Nat → Int32} {V : Nat → Option Nat} {ν ν' : Mem} (h : NM N c V B i0 m ν) (e1 : ∀ e, e < 4 → ν.1 27 1 (476 + 21 * e) = 1 → ν'.1 27 1 (476 + 21 * e) = 1) (e2 : ∀ a, 10 ≤ a → a ≤ 12 → ν'.1 28 a = ν.1 28 a) (e4 : ν'.1 26 0 39 = ν.1 26 0 39) : NM N c V B i0 m ν' := by
  refine ⟨e4.trans h.1, h.2.1, fun j hj => ?_⟩
  obtain ⟨⟨x, a, h1, h2, h3, h4, h5⟩, g, h6, h7⟩ := h.2.2 j hj
  refine ⟨⟨x, a, h1, by rw [e2 10 (by omega) (by omega)]; exact h2, by rw [e2 11 (by omega) (by omega)]; exact h3, h4, h5⟩, g, by rw [e2 12 (by omega) (by omega)]; exact h6, ?_⟩
  rcases h7 with ⟨e, he, hf, hx⟩ | hi
  · exact Or.inl ⟨e, he, hf, e1 e he hx⟩
  · exact Or.inr hi
theorem nm_mono {N B i0 i1 m : Nat} {c : Nat → Int32} {V : Nat → Option Nat} {ν : Mem} (h : NM N c V B i0 m ν) (hi : i0 ≤ i1) : NM N c V B i1 m ν := by
  refine ⟨h.1, h.2.1, fun j hj => ?_⟩
  obtain ⟨h1, g, h6, h7⟩ := h.2.2 j hj
  refine ⟨h1, g, h6, ?_⟩
  rcases h7 with a | ⟨i, a, b⟩
  · exact Or.inl a
  · exact Or.inr ⟨i, by omega, b⟩
/-- a name is noted: at place x, for the cell g -/
def noteM (ν : Mem) (m x l g : Nat) : Mem := wI (wI (wI (wI ν 28 10 m (nI x)) 28 11 m (nI l)) 28 12 m (nI g)) 26 0 39 (nI (m + 1))
theorem note_nm {N B i0 m x a g : Nat} {c : Nat → Int32} {V : Nat → Option Nat} {ν : Mem} (h : NM N c V B i0 m ν) (hm : m < 400) (hx : x < N) (hV : V x = some a) (ha : a < B) (hg : (∃ e, e < 4 ∧ (g = 476 + 21 * e + 1 ∨ g = 476 + 21 * e + 3 ∨ g = 476 + 21 * e + 4) ∧ ν.1 27 1 (476 + 21 * e) = 1) ∨ ∃ i, i < i0 ∧ i < 32 ∧ g = 284 + 6 * i + 2) : NM N c V B i0 (m + 1) (noteM ν m x (tkE c N x - x) g) := by
  refine ⟨wI_same, by omega, fun j hj => ?_⟩
  unfold noteM
  by_cases e : j = m
  · subst e
    exact ⟨⟨x, a, hx, (wI_o (by omega)).trans ((wI_o (by omega)).trans ((wI_o (by omega)).trans wI_same)), (wI_o (by omega)).trans ((wI_o (by omega)).trans wI_same), hV, ha⟩, g, (wI_o (by omega)).trans wI_same, by rcases hg with ⟨e, he, hf, hx⟩ | hi; exact Or.inl ⟨e, he, hf, hx⟩; exact Or.inr hi⟩
  · obtain ⟨⟨x', a', h1, h2, h3, h4, h5⟩, g', h6, h7⟩ := h.2.2 j (by omega)
    refine ⟨⟨x', a', h1, ?_, ?_, h4, h5⟩, g', ?_, h7⟩
    · exact (wI_o (by omega)).trans ((wI_o (by omega)).trans ((wI_o (by omega)).trans ((wI_o (by omega)).trans h2)))
    · exact (wI_o (by omega)).trans ((wI_o (by omega)).trans ((wI_o (by omega)).trans ((wI_o (by omega)).trans h3)))
    · exact (wI_o (by omega)).trans ((wI_o (by omega)).trans ((wI_o (by omega)).trans ((wI_o (by omega)).trans h6)))
theorem note_tt {N B i0 m x l a g : Nat} {c : Nat → Int32} {V : Nat → Option Nat} {ν : Mem} (h : NM N c V B i0 m ν) (hm : m < 400) (hx : x < 2 ^ 31) (hV : V x = some a) (hg : g < 2 ^ 31) : TT V (noteM ν m x l g) = fun q => if q = g then nI a else TT V ν q := by
  have c0 := nm_cnt h
  have e39 : (noteM ν m x l g).1 26 0 39 = nI (m + 1) := wI_same
  have e1 : nTg (noteM ν m x l g) m = g := by unfold nTg noteM; rw [wI_o (by omega), wI_same, nI_clamp (n := g) hg]
  have e2 : nVl V (noteM ν m x l g) m = nI a := by unfold nVl noteM; rw [wI_o (by omega), wI_o (by omega), wI_o (by omega), wI_same, nI_clamp (n := x) hx, hV]; rfl
  unfold TT
  rw [e39, nI_clamp (n := m + 1) (by omega), c0]
  funext q
  show (if q = nTg (noteM ν m x l g) m then nVl V (noteM ν m x l g) m else layF (ν.1 27 1) (nTg (noteM ν m x l g)) (nVl V (noteM ν m x l g)) m q) = _
  rw [e1, e2, layF_c (tg := nTg ν) (v := nVl V ν) m fun j hj => ⟨by unfold nTg noteM; rw [wI_o (by omega), wI_o (by omega), wI_o (by omega), wI_o (by omega)], by unfold nVl noteM; rw [wI_o (by omega), wI_o (by omega), wI_o (by omega), wI_o (by omega)]⟩]
/-! A SETUP IN PARTS: 17 fields, each with its cells of the class and of the model -/
def fS (B : Nat) (m S : Nat → Int32) : Nat → Prop
  | 0 => m 0 = 1 ∧ S 0 = 1
  | 1 => ∃ k : Nat, k < B ∧ S 1 = nI k ∧ m 1 = nI k
  | 2 => ∃ k : Nat, 256 ≤ k ∧ k < 65536 ∧ S 2 = nI k ∧ m 4 = nI k
  | 3 => (S 4 = -1 ∧ m 3 = -1) ∨ ∃ k : Nat, k < B ∧ S 4 = nI k ∧ m 3 = nI k
  | 4 => ∃ k : Nat, k < B ∧ S 3 = nI k ∧ m 2 = nI k
  | 5 => ∃ b s : Nat, b < 16 ∧ s ≤ 16 ∧ S 5 = nI b ∧ S 6 = nI s ∧ m 5 = nI b ∧ ∀ q, q < 32 → bt (m 6) q = (decide (q < 16) && grpM b s q)
  | 6 => ∃ b s : Nat, b < 16 ∧ s ≤ 16 ∧ S 7 = nI b ∧ S 8 = nI s ∧ m 7 = nI b ∧ ∀ q, q < 32 → bt (m 8) q = (decide (q < 16) && grpM b s q)
  | 7 => ∃ b s : Nat, b < 16 ∧ s ≤ 16 ∧ S 9 = nI b ∧ S 10 = nI s ∧ m 9 = nI b ∧ ∀ q, q < 32 → bt (m 10) q = (decide (q < 16) && grpM b s q)
  | 8 => ∃ k : Nat, k < 16 ∧ S 11 = nI k ∧ m 11 = nI k
  | 9 => ∃ k : Nat, k < 16 ∧ S 12 = nI k ∧ m 12 = nI k
  | 10 => S 13 = m 13 ∧ (S 13 = 0 ∨ S 13 = 1)
  | 11 => S 14 = m 14 ∧ (S 14 = 0 ∨ S 14 = 1)
  | 12 => S 16 = m 15 ∧ (S 16 = 0 ∨ S 16 = 1)
  | 13 => S 18 = m 16 ∧ (S 18 = 0 ∨ S 18 = 1)
  | 14 => ∃ k : Nat, 1 ≤ k ∧ k ≤ 32 ∧ S 15 = nI k ∧ m 17 = nI k
  | 15 => ∃ k : Nat, 1 ≤ k ∧ k ≤ 32 ∧ S 17 = nI k ∧ m 18 = nI k
  | _ => ∃ k : Nat, k ≤ 8 ∧ S 19 = nI k ∧ S 20 = nI (8 - k) ∧ m 19 = nI k
def mdep : List (List Nat) := [[0], [1], [4], [3], [2], [5, 6], [7, 8], [9, 10], [11], [12], [13], [14], [15], [16], [17], [18], [19]]
def sdep : List (List Nat) := [[0], [1], [2], [4], [3], [5, 6], [7, 8], [9, 10], [11], [12], [13], [14], [16], [18], [15], [17], [19, 20]]
def mdep_dj_b (i i' : Nat) : Bool := (mdep.getD i' []).all fun k => decide (k ∉ mdep.getD i [])
theorem mdep_dj_all : ∀ i, i < 17 → ∀ i', i' < 17 → i = i' ∨ mdep_dj_b i i' = true := by decide +kernel
theorem mdep_dj (i : Nat) (hi : i < 17) (i' : Nat) (hi' : i' < 17) (h : i ≠ i') (k : Nat) (_ : k < 20) (hk : k ∈ mdep.getD i' []) : k ∉ mdep.getD i [] := of_decide_eq_true (List.all_eq_true.1 ((mdep_dj_all i hi i' hi').resolve_left h) k hk)
def sdep_dj_b (i i' : Nat) : Bool := (sdep.getD i' []).all fun k => decide (k ∉ sdep.getD i [])
theorem sdep_dj_all : ∀ i, i < 17 → ∀ i', i' < 17 → i = i' ∨ sdep_dj_b i i' = true := by decide +kernel
theorem sdep_dj (i : Nat) (hi : i < 17) (i' : Nat) (hi' : i' < 17) (h : i ≠ i') (k : Nat) (_ : k < 21) (hk : k ∈ sdep.getD i' []) : k ∉ sdep.getD i [] := of_decide_eq_true (List.all_eq_true.1 ((sdep_dj_all i hi i' hi').resolve_left h) k hk)
theorem fS_c {B i : Nat} {m S m' S' : Nat → Int32} (hi : i < 17) (e1 : ∀ k, k < 20 → k ∈ mdep.getD i [] → m' k = m k) (e2 : ∀ k, k < 21 → k ∈ sdep.getD i [] → S' k = S k) (h : fS B m S i) : fS B m' S' i := by
  match i, hi with
  | 0, _ => simp only [fS] at h ⊢; rw [e1 0 (by decide) (by decide), e2 0 (by decide) (by decide)]; exact h
  | 1, _ => simp only [fS] at h ⊢; rw [e1 1 (by decide) (by decide), e2 1 (by decide) (by decide)]; exact h
  | 2, _ => simp only [fS] at h ⊢; rw [e1 4 (by decide) (by decide), e2 2 (by decide) (by decide)]; exact h
  | 3, _ => simp only [fS] at h ⊢; rw [e1 3 (by decide) (by decide), e2 4 (by decide) (by decide)]; exact h
  | 4, _ => simp only [fS] at h ⊢; rw [e1 2 (by decide) (by decide), e2 3 (by decide) (by decide)]; exact h
  | 5, _ => simp only [fS] at h ⊢; rw [e1 5 (by decide) (by decide), e1 6 (by decide) (by decide), e2 5 (by decide) (by decide), e2 6 (by decide) (by decide)]; exact h
  | 6, _ => simp only [fS] at h ⊢; rw [e1 7 (by decide) (by decide), e1 8 (by decide) (by decide), e2 7 (by decide) (by decide), e2 8 (by decide) (by decide)]; exact h
  | 7, _ => simp only [fS] at h ⊢; rw [e1 9 (by decide) (by decide), e1 10 (by decide) (by decide), e2 9 (by decide) (by decide), e2 10 (by decide) (by decide)]; exact h
  | 8, _ => simp only [fS] at h ⊢; rw [e1 11 (by decide) (by decide), e2 11 (by decide) (by decide)]; exact h
  | 9, _ => simp only [fS] at h ⊢; rw [e1 12 (by decide) (by decide), e2 12 (by decide) (by decide)]; exact h
  | 10, _ => simp only [fS] at h ⊢; rw [e1 13 (by decide) (by decide), e2 13 (by decide) (by decide)]; exact h
  | 11, _ => simp only [fS] at h ⊢; rw [e1 14 (by decide) (by decide), e2 14 (by decide) (by decide)]; exact h
  | 12, _ => simp only [fS] at h ⊢; rw [e1 15 (by decide) (by decide), e2 16 (by decide) (by decide)]; exact h
  | 13, _ => simp only [fS] at h ⊢; rw [e1 16 (by decide) (by decide), e2 18 (by decide) (by decide)]; exact h
  | 14, _ => simp only [fS] at h ⊢; rw [e1 17 (by decide) (by decide), e2 15 (by decide) (by decide)]; exact h
  | 15, _ => simp only [fS] at h ⊢; rw [e1 18 (by decide) (by decide), e2 17 (by decide) (by decide)]; exact h
  | 16, _ => simp only [fS] at h ⊢; rw [e1 19 (by decide) (by decide), e2 19 (by decide) (by decide), e2 20 (by decide) (by decide)]; exact h
  | n + 17, h => exact absurd h (by omega)
def QS (B : Nat) (m S : Nat → Int32) : Prop := ∀ i, i < 17 → fS B m S i
theorem qs_upd {B : Nat} {m S m' S' : Nat → Int32} (h : QS B m S) (i : Nat) (hi : i < 17) (e1 : ∀ k, k < 20 → k ∉ mdep.getD i [] → m' k = m k) (e2 : ∀ k, k < 21 → k ∉ sdep.getD i [] → S' k = S k) (hf : fS B m' S' i) : QS B m' S' := fun i' hi' => by
  by_cases e : i = i'
  · rw [← e]; exact hf
  · exact fS_c hi' (fun k hk hm => e1 k hk (mdep_dj i hi i' hi' e k hk hm)) (fun k hk hm => e2 k hk (sdep_dj i hi i' hi' e k hk hm)) (h i' hi')
theorem qs_relS {μ : Mem} {j B : Nat} {S : Nat → Int32} (h : QS B (μ.1 8 j) S) : relS μ j B S := by
  refine Or.inr ⟨(h 0 (by decide)).1, (h 0 (by decide)).2, h 1 (by decide), h 2 (by decide), h 3 (by decide), h 4 (by decide), fun g hg => ?_, h 8 (by decide), h 9 (by decide), h 10 (by decide), h 11 (by decide), h 12 (by decide), h 13 (by decide), h 14 (by decide), h 15 (by decide), h 16 (by decide)⟩
  match g, hg with
  | 0, _ => exact h 5 (by decide)
  | 1, _ => exact h 6 (by decide)
  | 2, _ => exact h 7 (by decide)
