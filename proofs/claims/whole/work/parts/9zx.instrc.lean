/-! PARSING: an instruction, both, in the program -/
theorem role1 : ∀ r, r < 74 → (¬ syR.getD r 0 &&& 1 = 0 ↔ 30 ≤ r ∧ r ≤ 42) := by decide
theorem ix_0 : ∀ r, r < 74 → ix 0 r = if 30 ≤ r ∧ r ≤ 42 then nI (r - 30) else -1 := by decide +kernel
def opLen (r : Nat) : Bool := decide (2 ≤ txN.getD (syT.getD r 0) 0) && tkL (txC (syT.getD r 0) 0)
theorem op_len : ∀ r, r < 43 → r < 30 ∨ opLen r = true := by decide +kernel
theorem c_insRest {F s : Nat} {μ : Mem} (hs : s < 2) (hr : μ.2.1 10 0 1 = s) : (ckB (μ.2.1 10 0 1) 2 <| bnd (fX11_takeRole 0 1 μ) fun a15 μ14 => ckB a15 74 <| bnd (fX4_add (μ.2.1 10 0 1) a15 μ14) fun a18 μ17 => ckB a18 66 <| bnd (fX5_readOperands F 0 a18 μ17) fun _ μ20 => cTail a18 μ20) = cI1 F s μ := by
  rw [hr, ckB_ok hs]
  rfl
theorem c_insEq {F : Nat} {μ : Mem} : fX5_readInstruction F 0 μ = bnd (fX11_atRole 0 1 μ) fun x28 μ27 =>
    let K := fun (μ1 : Mem) => (ckB (μ1.2.1 10 0 1) 2 <| bnd (fX11_takeRole 0 1 μ1) fun a15 μ14 => ckB a15 74 <| bnd (fX4_add (μ1.2.1 10 0 1) a15 μ14) fun a18 μ17 => ckB a18 66 <| bnd (fX5_readOperands F 0 a18 μ17) fun _ μ20 => cTail a18 μ20)
    if x28 = 0 then K μ27 else ckB (μ27.2.1 10 0 1) 2 <| bnd (fX4_isFull (μ27.2.1 10 0 1) μ27) fun x33 μ32 => if x33 = 0 then K μ32 else bnd (fX11_fail 0 3 μ32) fun _ μ35 => K μ35 := by
  unfold fX5_readInstruction cTail cT2
  simp only [jn_eq, nm_eq]
theorem c_insN {N n t s F : Nat} {c : Nat → Int32} {μ μ1 : Mem} (hn : n ≤ 1000) (h : CT N n c μ) (ht : t ≤ n) (h6 : μ.1 2 0 6 = nI t) (hs : s < 2) (hr : μ.2.1 10 0 1 = s) (g : syR.getD (syA N n c t) 0 &&& 1 = 0) (f : fX11_fail 0 1 μ = some ((), μ1)) (d : DD N n c μ1) : fX5_readInstruction F 0 μ = cI1 F s μ1 := by
  rw [c_insEq, c_atRole hn h ht h6, if_pos g, bnd_some]
  show (if (0 : Int32) = 0 then _ else _) = _
  rw [if_pos (show (0 : Int32) = 0 from rfl)]
  dsimp only
  rw [c_insRest hs hr]
  unfold cI1
  rw [c_noRole hn h ht h6 g f, d_takeRole d]
theorem c_insF {N n t s F cnt : Nat} {c : Nat → Int32} {μ μ1 : Mem} (hn : n ≤ 1000) (h : CT N n c μ) (ht : t ≤ n) (h6 : μ.1 2 0 6 = nI t) (hs : s < 2) (hr : μ.2.1 10 0 1 = s) (g : ¬ syR.getD (syA N n c t) 0 &&& 1 = 0) (h5 : μ.1 5 s 0 = nI cnt) (hc : cnt ≤ 32) (hc' : ¬ cnt < 32) (f : fX11_fail 0 3 μ = some ((), μ1)) (hr1 : μ1.2.1 10 0 1 = s) : fX5_readInstruction F 0 μ = cI1 F s μ1 := by
  rw [c_insEq, c_atRole hn h ht h6, if_neg g, bnd_some]
  show (if (1 : Int32) = 0 then _ else ckB (μ.2.1 10 0 1) 2 _) = _
  rw [if_neg (show ¬ (1 : Int32) = 0 by decide), hr, ckB_ok hs, c_full h5 hc, if_neg hc', bnd_some]
  show (if (1 : Int32) = 0 then _ else _) = _
  rw [if_neg (show ¬ (1 : Int32) = 0 by decide), f, bnd_some]
  dsimp only
  rw [c_insRest hs hr1]
theorem c_insY {N n t s F cnt : Nat} {c : Nat → Int32} {μ : Mem} (hn : n ≤ 1000) (h : CT N n c μ) (ht : t ≤ n) (h6 : μ.1 2 0 6 = nI t) (hs : s < 2) (hr : μ.2.1 10 0 1 = s) (g : ¬ syR.getD (syA N n c t) 0 &&& 1 = 0) (h5 : μ.1 5 s 0 = nI cnt) (hc : cnt < 32) : fX5_readInstruction F 0 μ = bnd (fX5_readOperands F 0 (33 * s + cnt) (wI (clr (wI μ 2 0 6 (nI (t + 1))) (33 * s + cnt) (syA N n c t)) 5 s 0 (nI (cnt + 1)))) fun _ μ20 => cTail (33 * s + cnt) μ20 := by
  rw [c_insEq, c_atRole hn h ht h6, if_neg g, bnd_some]
  show (if (1 : Int32) = 0 then _ else ckB (μ.2.1 10 0 1) 2 _) = _
  rw [if_neg (show ¬ (1 : Int32) = 0 by decide), hr, ckB_ok hs, c_full h5 (by omega), if_pos hc, bnd_some]
  show (if (0 : Int32) = 0 then _ else _) = _
  rw [if_pos (show (0 : Int32) = 0 from rfl)]
  dsimp only
  rw [c_insRest hs hr]
  unfold cI1
  rw [c_takeRole hn h ht h6 g, bnd_some, ckB_ok syA_lt, c_addY ((wI_o (by omega)).trans h5) hc, bnd_some, ckB_ok (by omega)]
/-! the model -/
theorem m_insA {N n F : Nat} {c : Nat → Int32} {μ' ν ν' : Mem} (h26 : ν.1 26 0 26 = 0) (ei : fX13_indexIn F 0 0 ν = some (-1, ν)) (f : fX13_fail 0 1 ν = some ((), ν')) (b : PB N n c μ' ν') : mIns F ν = some ((), ν') := by
  have e := b_err b
  unfold mIns mI3
  rw [ei, bnd_some]
  show (if ¬ ν.1 26 0 26 = 0 then _ else if (-1 : Int32) = -1 then _ else _) = _
  rw [if_neg (fun z => z h26), if_pos rfl]
  dsimp only
  rw [m_chk0 f, bnd_some, if_pos e, m_chk1, bnd_some, b_advance b, bnd_some, if_neg e]
theorem m_insF {N n F cnt o : Nat} {c : Nat → Int32} {μ' ν ν' : Mem} (h26 : ν.1 26 0 26 = 0) (ho : o ≤ 12) (ei : fX13_indexIn F 0 0 ν = some (nI o, ν)) (h0 : ν.1 27 1 0 = nI cnt) (hc : cnt ≤ 32) (hc' : ¬ cnt < 32) (f : fX13_fail 0 3 ν = some ((), ν')) (b : PB N n c μ' ν') : mIns F ν = some ((), ν') := by
  have e := b_err b
  unfold mIns mI3
  rw [ei, bnd_some]
  show (if ¬ ν.1 26 0 26 = 0 then _ else if nI o = -1 then _ else _) = _
  rw [if_neg (fun z => z h26), if_neg (nI_m1 (by omega))]
  dsimp only
  rw [m_chk1, bnd_some, if_neg (fun z => z h26), h0, if_pos (show (32 : Int32) ≤ nI cnt from (nI_leI (a := 32) (by decide) (by omega)).2 (by omega)), m_chk0 f, bnd_some, b_advance b, bnd_some, if_neg e]
theorem m_insG {F cnt o : Nat} {ν ν1 : Mem} (h26 : ν.1 26 0 26 = 0) (ho : o ≤ 12) (ei : fX13_indexIn F 0 0 ν = some (nI o, ν)) (h0 : ν.1 27 1 0 = nI cnt) (hc : cnt < 32) (sc : fX13_scan F 0 ν = some ((), ν1)) (h1 : ν1.1 26 0 26 = 0) (h01 : ν1.1 27 1 0 = nI cnt) :
    mIns F ν = bnd (mSD F cnt (nI o) (wI (wI ν1 27 1 (284 + 6 * cnt + 0) (nI o)) 27 1 (284 + 6 * cnt + 4) (-1))) fun _ ν2 => mInc ν2 := by
  have ex : (284 : Int32) + 6 * nI cnt = nI (284 + 6 * cnt) := by rw [show (284 : Int32) = nI 284 from rfl, show (6 : Int32) = nI 6 from rfl, pk_mul, nI_add]
  have ea : fX13_advance F 0 ν = some ((), ν1) := by
    unfold fX13_advance
    simp only [jn_eq]
    rw [if_neg (fun z => z h26), sc, bnd_some]
  unfold mIns mI3
  rw [ei, bnd_some]
  show (if ¬ ν.1 26 0 26 = 0 then _ else if nI o = -1 then _ else _) = _
  rw [if_neg (fun z => z h26), if_neg (nI_m1 (by omega))]
  dsimp only
  rw [m_chk1, bnd_some, if_neg (fun z => z h26), h0, if_neg (show ¬ (32 : Int32) ≤ nI cnt from fun z => absurd ((nI_leI (a := 32) (by decide) (by omega)).1 z) (by omega)), m_chk1, bnd_some, ea, bnd_some, if_pos h1, h01, ex]
  simp only [show nI (284 + 6 * cnt) + (0 : Int32) = nI (284 + 6 * cnt + 0) from x_add (k := 0), show nI (284 + 6 * cnt) + (4 : Int32) = nI (284 + 6 * cnt + 4) from x_add (k := 4), show nI (284 + 6 * cnt) + (5 : Int32) = nI (284 + 6 * cnt + 5) from x_add (k := 5), x_ck hc (show 0 < 6 by decide), x_ck hc (show 4 < 6 by decide), x_cl hc (show 0 < 6 by decide), x_cl hc (show 4 < 6 by decide)]
  unfold mSD mOpt
  simp only [bnd_as, bnd_ite, bnd_some]
theorem b_ins {N n fu : Nat} {c : Nat → Int32} {μ ν : Mem} (b : PB N n c μ ν) : mIns (fu + 1001) ν = some ((), ν) := by
  have e := b_err b
  have ei : fX13_indexIn (fu + 1001) 0 0 ν = _ := b_index b (show 0 < 4 by decide) (fu + 951)
  unfold mIns mI3
  rw [ei, bnd_some]
  show (if ¬ ν.1 26 0 26 = 0 then _ else _) = _
  rw [if_pos e]
  dsimp only
  rw [m_chk1, bnd_some, if_pos e, m_chk1, bnd_some, b_advance b, bnd_some, if_neg e]
/-! the program around it -/
def PDi (s B cnt : Nat) (μ : Mem) (T : Nat → Int32) : Prop :=
  cnt < 32 ∧ T 0 = nI cnt ∧ μ.1 5 s 0 = nI (cnt + 1) ∧ (∀ a, a < cnt → relI μ (33 * s + a) B (fun k => T (284 + 6 * a + k))) ∧ (∀ a, cnt < a → a < 32 → ∀ k, k < 6 → T (284 + 6 * a + k) = 0) ∧
  (∀ e, e < 4 → PE s B e μ T) ∧ (∀ q, q < 16 → T (4 + 6 * q + 2) = b2 (bt (μ.1 5 s 1) q)) ∧
  (∀ a, a < 284 → a ≠ 0 → (∀ q, q < 16 → a ≠ 4 + 6 * q + 2) → T a = if a = 2 then -1 else 0) ∧ ∀ a, 560 ≤ a → a < 700 → T a = 0
theorem pdi_c {s B cnt : Nat} {μ μ' : Mem} {T : Nat → Int32} (h : PDi s B cnt μ T) (f : FcI (33 * s + cnt) μ μ') : PDi s B cnt μ' T := by
  obtain ⟨h1, h2, h3, h4, h5, h6, h7, h8, h9⟩ := h
  exact ⟨h1, h2, (f.1 _ _ _ (by omega) (by omega)).trans h3, fun a ha => relI_c (h4 a ha) (funext fun k => f.1 _ _ _ (by omega) (by omega)) (funext fun k => f.2.1 _ _ _ (by omega)), h5, fun e he => pe_c (h6 e he) (funext fun k => f.1 _ _ _ (by omega) (by omega)) (fun _ _ => rfl), fun q hq => by rw [f.1 _ _ _ (by omega) (by omega)]; exact h7 q hq, h8, h9⟩
theorem pd_instr {s B cnt : Nat} {μ : Mem} {T T' : Nat → Int32} (h : PDi s B cnt μ T) (e : ∀ a, a ≠ 0 → ¬ (284 + 6 * cnt ≤ a ∧ a < 290 + 6 * cnt) → T' a = T a) (e0 : T' 0 = nI (cnt + 1)) (hR : RI B (fun k => T' (284 + 6 * cnt + k)) (μ.1 9 (33 * s + cnt)) (μ.2.1 9 (33 * s + cnt))) : PD s B (cnt + 1) μ T' := by
  obtain ⟨h1, h2, h3, h4, h5, h6, h7, h8, h9⟩ := h
  refine ⟨by omega, e0, h3, fun a ha => ?_, fun a ha hb k hk => (e _ (by omega) (by omega)).trans (h5 a (by omega) hb k hk), fun e' he => pe_c (h6 e' he) rfl (fun k hk => e _ (by omega) (by omega)), fun q hq => (e _ (by omega) (by omega)).trans (h7 q hq), fun a ha hb hc => (e a hb (by omega)).trans (h8 a ha hb hc), fun a ha hb => (e a (by omega) (by omega)).trans (h9 a ha hb)⟩
  by_cases g : a = cnt
  · subst g; exact relI_iff.2 hR
  · exact relI_P (h4 a (by omega)) fun k hk => e _ (by omega) (by omega)
