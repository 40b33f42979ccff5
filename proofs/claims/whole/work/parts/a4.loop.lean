/-! THE LAW'S LOOP -/
theorem sx_self {X : CX} : sx (xa X 33 0) X = X := by
  obtain ⟨p, l, e, R, s, m, args, below, meth, c, D, ad, ty, A, Q, nL, vv⟩ := X
  show (p, l, e, R, s, m, args, below, meth, c, D, am ad (ad 33 0), ty, A, Q, nL, vv) = _
  rw [am_self]
theorem sx_sx {X : CX} {w v : Nat} : sx v (sx w X) = sx v X := by
  obtain ⟨p, l, e, R, s, m, args, below, meth, c, D, ad, ty, A, Q, nL, vv⟩ := X
  show (p, l, e, R, s, m, args, below, meth, c, D, am (am ad w) v, ty, A, Q, nL, vv) = _
  rw [am_am]
  exact (show (p, l, e, R, s, m, args, below, meth, c, D, am ad v, ty, A, Q, nL, vv) = (p, l, e, R, s, m, args, below, meth, c, D, am ad v, ty, A, Q, nL, vv) from rfl)
theorem xl_sx {X : CX} {w : Nat} : xl (sx w X) = xl X := by obtain ⟨p, l, e, R, s, m, args, below, meth, c, D, ad, ty, A, Q, nL, vv⟩ := X; exact (show l = l from rfl)
theorem xv_sx {X : CX} {w : Nat} : xv (sx w X) = xv X := by obtain ⟨p, l, e, R, s, m, args, below, meth, c, D, ad, ty, A, Q, nL, vv⟩ := X; exact (show vv = vv from rfl)
theorem xn_sx {X : CX} {w : Nat} : xn (sx w X) = xn X := by obtain ⟨p, l, e, R, s, m, args, below, meth, c, D, ad, ty, A, Q, nL, vv⟩ := X; exact (show nL = nL from rfl)
theorem rm_sx {X : CX} {w fr lo mc ms : Nat} (h : Rm X fr lo mc ms) : Rm (sx w X) fr lo mc ms := by obtain ⟨p, l, e, R, s, m, args, below, meth, c, D, ad, ty, A, Q, nL, vv⟩ := X; have h : R = rm4 fr lo mc ms := h; show R = rm4 fr lo mc ms; exact h
theorem scr_sx {X : CX} {w bs SL : Nat} {xs : Nat → Int32} (h : Scr X bs SL xs) : Scr (sx w X) bs SL xs := by obtain ⟨p, l, e, R, s, m, args, below, meth, c, D, ad, ty, A, Q, nL, vv⟩ := X; have h : va_X bs SL xs s s.heap ∧ bs < s.heap.size ∧ ¬ A bs := h; show va_X bs SL xs s s.heap ∧ bs < s.heap.size ∧ ¬ A bs; exact h
theorem j_wid {X : CX} {ca sl ca1 sl1 : Nat} {μ : Mem} {pc : Nat} {L : List (Nat × Value)} {st : List Value} (h1 : ca ≤ ca1) (h2 : sl ≤ sl1) (k : J X ca1 sl1 μ pc L st) : J X ca sl μ pc L st := by
  obtain ⟨p, l, e, R, s, m, args, below, meth, c, D, ad, ty, A, Q, nL, vv⟩ := X
  intro H locs ls hP hS hl
  exact W.widen h1 h2 (k H locs ls hP hS hl)
def L4 (X : CX) (bs : Nat) (i : Int32) : List (Nat × Value) := [(4, .int i), (0, .ref bs), (1, .ref (xa X 0 0)), (2, .ref (xa X 26 0)), (3, .ref (xa X 31 0))]
theorem L4_sx {X : CX} {w bs : Nat} {i : Int32} : L4 (sx w X) bs i = L4 X bs i := by unfold L4; rw [xa_sx (κ := 0) (by decide), xa_sx (κ := 26) (by decide), xa_sx (κ := 31) (by decide)]
/-- a case of the law comes to its end in order, wherever the builder's bytes lie -/
def CaseOK (Inv : Mem → Prop) (pcj : Nat) : Prop := ∀ (X : CX) (_ : (xl X).stackTraces = false) (_ : 2 ≤ xv X) (_ : Ok X RL cL_law) (_ : Rm X 2048 84000 601024 7293034) (_ : ∀ i : Nat, i < 8 → i < xn X) (bs SL : Nat) (xs : Nat → Int32) (_ : Scr X bs SL xs) (ca sl k : Nat) (_ : ca + 20 ≤ 601024) (_ : sl + 10000 ≤ 7293034) (_ : 6 * k + 6 ≤ SL) (_ : SL ≤ 3072) (μ : Mem) (_ : Inv μ)
  (_ : ∀ (w : Nat) (μ' : Mem), Ok (sx w X) RL cL_law → Inv μ' → J (sx w X) (ca + 20) (sl + 10000) μ' 2636 (L4 X bs (nI (6 * k))) []), J X ca sl μ pcj (L4 X bs (nI (6 * k))) []
theorem case_of {Inv : Mem → Prop} {pcj mc ms : Nat} (h1 : mc ≤ 20) (h2 : ms ≤ 10000) (cs : Nat → Nat → (Nat → Int32) → Nat → Int32 → Mem → Option Mem)
    (hz : ∀ (X : CX) (_ : (xl X).stackTraces = false) (_ : 2 ≤ xv X) (_ : Ok X RL cL_law) (_ : Rm X 2048 84000 601024 7293034) (_ : ∀ i : Nat, i < 8 → i < xn X) (bs SL : Nat) (xs : Nat → Int32) (_ : Scr X bs SL xs) (fu gu ca sl : Nat) (_ : ca + mc ≤ 601024) (_ : sl + ms ≤ 7293034) (i : Int32) (μ r0 : Mem) (_ : J X (ca + mc) (sl + ms) r0 2636 [(4, .int i), (0, .ref bs), (1, .ref (xa X 0 0)), (2, .ref (xa X 26 0)), (3, .ref (xa X 31 0))] []), G X r0 ca sl μ pcj [(4, .int i), (0, .ref bs), (1, .ref (xa X 0 0)), (2, .ref (xa X 26 0)), (3, .ref (xa X 31 0))] [] (cs fu gu xs SL i μ))
    (hm : ∀ (xs : Nat → Int32) (SL k : Nat) (μ : Mem), 6 * k + 6 ≤ SL → SL ≤ 3072 → Inv μ → ∃ μ', cs 3000 3000 xs SL (nI (6 * k)) μ = some μ' ∧ Inv μ') : CaseOK Inv pcj := by
  intro X hT V C R0 hN bs SL xs S ca sl k c1 c2 c3 c4 μ hI H0
  obtain ⟨μ', e, hI'⟩ := hm xs SL k μ c3 c4 hI
  have h0 := H0 (xa X 33 0) μ' (by rw [sx_self]; exact C) hI'
  rw [sx_self] at h0
  exact hz X hT V C R0 hN bs SL xs S 3000 3000 ca sl (by omega) (by omega) (nI (6 * k)) μ μ' (j_wid (by omega) (by omega) h0) e
def lawPcs : List Nat := [236, 309, 365, 378, 391, 404, 417, 473, 529, 592, 648, 704, 717, 773, 841, 897, 953, 1009, 1065, 1128, 1212, 1307, 1375, 1443, 1499, 1555, 1623, 1678, 1769, 1825, 1893, 1973, 2041, 2097, 2177, 2257, 2325, 2381, 2449, 2505, 2530, 2543, 2556, 2567, 2580]
def lawOffs : Array Int := #[196, 269, 325, 338, 351, 364, 377, 433, 489, 552, 608, 664, 677, 733, 801, 857, 913, 969, 1025, 1088, 1172, 1267, 1335, 1403, 1459, 1515, 1583, 1638, 1729, 1785, 1853, 1933, 2001, 2057, 2137, 2217, 2285, 2341, 2409, 2465, 2490, 2503, 2516, 2527, 2540]
theorem lsw_at : ∀ j, j < 45 → lawOffs[j]? = some ((lawPcs.getD j 0 : Nat) - 40 : Int) := by decide +kernel
/-- what the law's frame has to end in -/
def LawEnd : CX → Nat → Prop
  | (p, l, e, R, s, m, args, below, meth, c, D, ad, ty, A, Q, nL, vv), bs => R = room_1 ∧ args = #[Value.ref bs] ∧ Q = lw_Z below #[Value.ref bs] s ∧ meth.sig.returnType = ret ∧ ∀ q : Nat, A q → s.heap.size ≤ q
theorem lawEnd_sx {X : CX} {w bs : Nat} (h : LawEnd X bs) : LawEnd (sx w X) bs := by obtain ⟨p, l, e, R, s, m, args, below, meth, c, D, ad, ty, A, Q, nL, vv⟩ := X; have h : R = room_1 ∧ args = #[Value.ref bs] ∧ Q = lw_Z below #[Value.ref bs] s ∧ meth.sig.returnType = ret ∧ ∀ q : Nat, A q → s.heap.size ≤ q := h; show R = room_1 ∧ args = #[Value.ref bs] ∧ Q = lw_Z below #[Value.ref bs] s ∧ meth.sig.returnType = ret ∧ ∀ q : Nat, A q → s.heap.size ≤ q; exact h
theorem law_exit {X : CX} {bs ca sl : Nat} {μ : Mem} {L : List (Nat × Value)} (C : Ok X RL cL_law) (E : LawEnd X bs) (h1 : ca ≤ 601024) (h2 : sl ≤ 7293034) : J X ca sl μ 2643 L [.int 1] := by
  obtain ⟨p, l, e, R, s, m, args, below, meth, c, D, ad, ty, A, Q, nL, vv⟩ := X
  obtain ⟨hx, hb, hml, hown, hts, hK, hD, hA, hlk, hZ⟩ := C
  obtain ⟨rfl, rfl, rfl, hr, hAs⟩ := E
  intro H locs ls hP hS hl
  refine va_forget (fun q hq => hAs _ (hS.2.2 q hq)) ?_
  refine W.widen h1 h2 ?_
  exact lw_ret hx hb hr hlk dL_law_2643
theorem nI_sub6 {S : Nat} (h : 6 ≤ S) : nI S - 6 = nI (S - 6) := by
  obtain ⟨n, rfl⟩ : ∃ n, S = n + 6 := ⟨S - 6, by omega⟩
  rw [← nI_add, show n + 6 - 6 = n by omega]
  show nI n + nI 6 - nI 6 = nI n
  exact Int32.add_sub_cancel _ _
theorem ge6 {SL k : Nat} (hSL : SL ≤ 3072) (hk : 6 * k ≤ SL) (h : ¬ (nI SL - 6 < nI (6 * k))) : 6 * k + 6 ≤ SL := by
  by_cases h6 : 6 ≤ SL
  · have e : nI SL - 6 = nI (SL - 6) := nI_sub6 h6
    rw [e] at h
    have := Int32.not_lt.mp h
    have h2 := (nI_leI (by omega) (by omega)).mp this
    omega
  · exfalso
    apply h
    have e0 : k = 0 := by omega
    subst e0
    have : ∀ n, n < 6 → nI n - 6 < nI (6 * 0) := by decide +kernel
    exact this SL (by omega)
