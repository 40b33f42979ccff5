/-! A CALL OF THE MODEL LEAVES THE LAW'S LONG AS IT IS: its contract holds in the world without it -/
def kJ (μ μ' : Mem) : Mem := (μ'.1, μ'.2.1, fun κ n k => if κ = 31 then μ.2.2 κ n k else μ'.2.2 κ n k)
def bndJ {α β : Type} (μ : Mem) (o : Option (β × Mem)) (k : β → Mem → Option α) : Option α := o.bind fun r => k r.1 (kJ μ r.2)
set_option maxRecDepth 100000 in
theorem c12_a : ∀ q ∈ cellsOf (kdL 1), q ∈ cellsOf (kdL 2) ∧ q.1 ≠ 31 := by decide +kernel
set_option maxRecDepth 100000 in
theorem c12_b : ∀ q ∈ cellsOf (kdL 2), q.1 = 31 ∨ q ∈ cellsOf (kdL 1) := by decide +kernel
theorem kdm12 : ∀ κ, κ ≠ 31 → (kdL 1).getD κ (0, .inl (0, [])) = (kdL 2).getD κ (0, .inl (0, [])) := by
  intro κ h
  match κ, h with
  | 0, _ => rfl
  | 1, _ => rfl
  | 2, _ => rfl
  | 3, _ => rfl
  | 4, _ => rfl
  | 5, _ => rfl
  | 6, _ => rfl
  | 7, _ => rfl
  | 8, _ => rfl
  | 9, _ => rfl
  | 10, _ => rfl
  | 11, _ => rfl
  | 12, _ => rfl
  | 13, _ => rfl
  | 14, _ => rfl
  | 15, _ => rfl
  | 16, _ => rfl
  | 17, _ => rfl
  | 18, _ => rfl
  | 19, _ => rfl
  | 20, _ => rfl
  | 21, _ => rfl
  | 22, _ => rfl
  | 23, _ => rfl
  | 24, _ => rfl
  | 25, _ => rfl
  | 26, _ => rfl
  | 27, _ => rfl
  | 28, _ => rfl
  | 29, _ => rfl
  | 30, _ => rfl
  | 31, h => exact absurd rfl h
  | 32, _ => rfl
  | 33, _ => rfl
  | κ + 34, _ => rfl
theorem kdL_ge2 {vv : Nat} (h : 2 ≤ vv) : kdL vv = kdL 2 := by
  obtain ⟨n, rfl⟩ : ∃ n, vv = n + 2 := ⟨vv - 2, by omega⟩
  exact kdL_big n
theorem wl_inv {vv : Nat} {ad : Nat → Nat → Nat} {ty : Nat → ClassId} {μ : Mem} {i : Nat} {p : Nat × va_E} (h : (wl vv ad ty μ)[i]? = some p) : ∃ z, (cellsOf (kdL vv))[i]? = some z ∧ p = (ad z.1 z.2, cellK (kdL vv) ad ty μ z.1 z.2) := by
  unfold wl wlK at h
  rw [List.getElem?_map] at h
  cases hc : (cellsOf (kdL vv))[i]? with
  | none => rw [hc] at h; cases h
  | some q => rw [hc] at h; cases h; exact ⟨q, rfl, rfl⟩
/-- a cell of the smaller world lies in the greater one -/
theorem wl12_at {ad : Nat → Nat → Nat} {ty : Nat → ClassId} {μ : Mem} {i : Nat} {p : Nat × va_E} (h : (wl 1 ad ty μ)[i]? = some p) : ∃ (z : Nat × Nat) (j : Nat), (cellsOf (kdL 1))[i]? = some z ∧ (cellsOf (kdL 2))[j]? = some z ∧ (wl 2 ad ty μ)[j]? = some p := by
  obtain ⟨z, h1, rfl⟩ := wl_inv h
  obtain ⟨h2, h3⟩ := c12_a z (List.mem_of_getElem? h1)
  obtain ⟨j, hj⟩ := List.getElem?_of_mem h2
  refine ⟨z, j, h1, hj, ?_⟩
  rw [wl_at (kinds := kdL 2) (κ := z.1) (n := z.2) hj]
  unfold cellK
  rw [kdm12 z.1 h3]
theorem wl12_P {D : va_G} {ad : Nat → Nat → Nat} {ty : Nat → ClassId} {μ : Mem} {H : Heap} (hP : va_P D vwCl (wl 2 ad ty μ) H) : va_P D vwCl (wl 1 ad ty μ) H := by
  intro i p h
  obtain ⟨z, j, -, -, h2⟩ := wl12_at h
  exact hP j p h2
theorem wl12_D {ad : Nat → Nat → Nat} {ty : Nat → ClassId} {μ : Mem} {A : Nat → Prop} (hD : va_D A (wl 2 ad ty μ)) : va_D A (wl 1 ad ty μ) := by
  refine ⟨fun i j p q h1 h2 he => ?_, fun k p h => ?_⟩
  · obtain ⟨z, i2, a1, a2, a3⟩ := wl12_at h1
    obtain ⟨y, j2, b1, b2, b3⟩ := wl12_at h2
    have e := hD.1 i2 j2 p q a3 b3 he
    subst e
    have hzy : z = y := Option.some.inj (a2.symm.trans b2)
    subst hzy
    exact (List.getElem?_inj (List.getElem?_eq_some_iff.mp a1).1 (kd_nodup 1)).mp (a1.trans b1.symm)
  · obtain ⟨z, j, -, -, h2⟩ := wl12_at h
    exact hD.2 j p h2
theorem wl12_A {ad : Nat → Nat → Nat} {ty : Nat → ClassId} {μ : Mem} {sz q : Nat} (h : va_A (wl 1 ad ty μ) sz q) : va_A (wl 2 ad ty μ) sz q := by
  rcases h with ⟨k, e, h⟩ | h
  · obtain ⟨z, j, -, -, h2⟩ := wl12_at h
    exact Or.inl ⟨j, e, h2⟩
  · exact Or.inr h
/-- the greater world again: what the call has made, and the long as it was -/
theorem wl12_join {D : va_G} {ad : Nat → Nat → Nat} {ty : Nat → ClassId} {μ μ' : Mem} {A : Nat → Prop} {H H1 : Heap} (hP : va_P D vwCl (wl 2 ad ty μ) H) (hD : va_D A (wl 2 ad ty μ)) (h1 : va_P D vwCl (wl 1 ad ty μ') H1) (hk : ∀ q : Nat, q < H.size → ¬ va_A (wl 1 ad ty μ) H.size q → H1[q]? = H[q]?) : va_P D vwCl (wl 2 ad ty (kJ μ μ')) H1 := by
  intro j p h
  obtain ⟨z, hz, rfl⟩ := wl_inv h
  rcases c12_b z (List.mem_of_getElem? hz) with e | hm
  · obtain ⟨κ, n⟩ := z
    have e : κ = 31 := e
    subst e
    have h0 : (wl 2 ad ty μ)[j]? = some (ad 31 n, cellK (kdL 2) ad ty μ 31 n) := wl_at hz
    have hp := hP j _ h0
    have hne : ¬ va_A (wl 1 ad ty μ) H.size (ad 31 n) := by
      intro ha
      rcases ha with ⟨k, e, h3⟩ | h3
      · obtain ⟨y, j2, b1, b2, b3⟩ := wl12_at h3
        have e2 := hD.1 j j2 _ _ h0 b3 rfl
        subst e2
        have hzy : ((31, n) : Nat × Nat) = y := Option.some.inj (hz.symm.trans b2)
        subst hzy
        exact (c12_a _ (List.mem_of_getElem? b1)).2 rfl
      · exact absurd hp.lt (Nat.not_lt.mpr h3)
    have h4 := hp.kept (hk _ hp.lt hne)
    exact h4
  · obtain ⟨i, hi⟩ := List.getElem?_of_mem hm
    have h3 := h1 i _ (wl_at (kinds := kdL 1) (κ := z.1) (n := z.2) hi)
    have e31 := (c12_a z hm).2
    have e : cellK (kdL 2) ad ty (kJ μ μ') z.1 z.2 = cellK (kdL 1) ad ty μ' z.1 z.2 := by
      unfold cellK
      rw [kdm12 z.1 e31]
      have e2 : (kJ μ μ').2.2 z.1 z.2 = μ'.2.2 z.1 z.2 := funext fun k => if_neg e31
      rw [e2]
      rfl
    rw [e]
    exact h3
section CallM
variable {p : Program} {l : Launch} {e : Env} {R : Room} {s : State} {m : MethodId} {args : Array Value} {below : List Frame} {meth : Method} {c : Code} {H : Heap} {locs : List Loc} {cells slots : Nat} {Q : State → Prop}
variable {pc : Nat} {ls : Array Slot} {rest st0 : List Value} {a : Array Value} {A A1 : Nat → Prop} {mc ms : Nat} {D : va_G} {ad : Nat → Nat → Nat} {ty : Nat → ClassId} {μ μ1 : Mem} {vv : Nat}
theorem run_goJ {v : Option Value} (hr : va_Run p l e R s m args below meth c H locs cells slots mc ms (F0 m pc ls st0) rest (KQ vv D ad ty μ1 v A1 a) A1) (hS : va_S A s.heap H locs) (hA : ∀ q : Nat, A1 q → A q)
    (kk : ∀ (H1 : Heap) (locs1 : List Loc), va_P D vwCl (wl vv ad ty μ1) H1 → (∀ q : Nat, q < H.size → ¬ A1 q → H1[q]? = H[q]?) → va_S A s.heap H1 locs1 → W p l e R s m args below meth c H1 locs1 (cells + mc) (slots + ms) Q (F0 m (pc + 3) ls (v.toList ++ rest))) : W p l e R s m args below meth c H locs cells slots Q (F0 m pc ls st0) := by
  intro T hT X
  obtain ⟨v', st₀, t, T', L, h0, X', hL, e1, e2, ⟨hv, hP1, hz, hk⟩, st⟩ := hr T hT X
  cases hv
  rw [h0] at hz hk
  obtain ⟨t2, a1, b1⟩ := kk T'.heap (locs ++ L) (by rw [e1]; exact hP1) (fun q h1 h2 => by rw [e1]; exact hk q h1 h2)
    ⟨Nat.le_trans hS.1 (by rw [e1]; exact hz), fun q h1 h2 => by rw [e1, hk q (Nat.lt_of_lt_of_le h1 hS.1) (fun z => h2 (hA q z))]; exact hS.2.1 q h1 h2, fun q hq => by
      rcases List.mem_append.mp hq with h | h
      · exact hS.2.2 q h
      · exact hA _ (hL q h)⟩ T' rfl X'
  exact ⟨t2, st t2 a1, b1⟩
end CallM
/-- the smaller world does not see the long -/
theorem wl1_kJ {ad : Nat → Nat → Nat} {ty : Nat → ClassId} {μ0 μ : Mem} : wl 1 ad ty (kJ μ0 μ) = wl 1 ad ty μ := by
  unfold wl wlK
  refine List.map_congr_left fun z hz => ?_
  have e2 : (kJ μ0 μ).2.2 z.1 z.2 = μ.2.2 z.1 z.2 := funext fun k => if_neg (c12_a z hz).2
  unfold cellK
  rw [e2]
  rfl
theorem s_callM {X : CX} {own : String} {cc : ByteArray} {α β : Type} {r0 : α} {ca sl fr lo fr1 lo1 mcX msX mc ms : Nat} {μ : Mem} {pc : Nat} {L : List (Nat × Value)} {st stk As : List Value} {y : MethodName} {bytes : ByteArray} {mL n ix κ cnt ii : Nat} {rt : Option FieldType} {av : (Nat → Nat → Nat) → List Value} {rv : (Nat → Nat → Nat) → β → Option Value} {f : Mem → Option (β × Mem)} {k : β → Mem → Option α} {μ0 : Mem}
    (C : Ok X own cc) (E : Rm X fr lo mcX msX) (V : 2 ≤ xv X) (hk : Kon 1 (xl X) y bytes mL rt fr1 lo1 mc ms av rv f) (hM : MM y bytes mL rt n) (hI : MI y) (hl : Cond.methodLink own ix y ∈ tb) (hR : RC (xv X) κ cnt y.cls) (hi : ii < cnt)
    (hav : av (xa X) = .ref (xa X κ ii) :: As) (hstk : stk = As.reverse ++ .ref (xa X κ ii) :: st) (hn : As.length = n) (hst : (st.map fun v => v.category).sum ≤ 8) (hroom : fr1 + 1 ≤ fr ∧ 8 + (mL + 11) + lo1 ≤ lo ∧ ca + mc ≤ mcX ∧ sl + ms ≤ msX) (hd : decode cc pc = .ok (.invokevirtual ix, 3))
    (kk : ∀ (r : β) (μ' : Mem), G X r0 (ca + mc) (sl + ms) μ' (pc + 3) L ((rv (xa X) r).toList ++ st) (k r μ')) : G X r0 ca sl μ pc L stk (bndJ μ (f (kJ μ0 μ)) k) := by
  obtain ⟨p, l, e, R, s, m, args, below, meth, c, D, ad, ty, A, Q, nL, vv⟩ := X
  obtain ⟨hx, hb, hml, hown, hts, hK, hD, hA, hlk, hZ⟩ := C
  have V2 : 2 ≤ vv := V
  have hRX : R = rm4 fr lo mcX msX := E
  obtain ⟨m1, m2, m3⟩ := hM
  obtain ⟨ci, sl0, T, N, r1, r2⟩ := hR
  have r1 : (kdL vv)[κ]? = some (cnt, .inl (ci, sl0)) := r1
  subst hRX
  intro h H locs ls hP hS hl'
  have ew : ∀ μ : Mem, wl vv ad ty μ = wl 2 ad ty μ := fun μ => by unfold wl; rw [kdL_ge2 V2]
  obtain ⟨rr, h1, h2⟩ := Option.bind_eq_some_iff.mp h
  obtain ⟨r, μ'⟩ := rr
  obtain ⟨q0, hq⟩ := cell_at r1 hi
  have hrec := va_recv hK hP r2 (obj_at r1 hq)
  have hav' : av ad = .ref (ad κ ii) :: As := hav
  have hmet := hk 1 (Nat.le_refl 1) D ad ty (kJ μ0 μ) H.size (r, μ') h1
  rw [hav'] at hmet
  have hD2 : va_D A (wl 2 ad ty μ) := by rw [← ew]; exact hD μ
  have hP2 : va_P D vwCl (wl 2 ad ty μ) H := by rw [← ew]; exact hP
  refine run_goJ (v := rv ad r) (μ1 := μ') (va_runV (As := As) (rest := st) ⟨hx, hb, hml, hown, hts⟩ hmet (cwV n hts (tb_goodIn (fun w hw => ?_)) rfl rfl rfl ⟨rfl, m3⟩ ⟨hroom.1, hroom.2.1⟩) ⟨kp_blind, hrec, kp_pre (μ := kJ μ0 μ) (by rw [wl1_kJ]; exact wl12_P hP2) hK (by rw [wl1_kJ]; exact wl12_D hD2) hS hA hZ⟩ rfl hn hl'.1 hstk (lv_room hst) hd ⟨hroom.2.2.1, hroom.2.2.2⟩) hS (wl_A (μ := kJ μ0 μ) (by rw [wl1_kJ]; exact wl12_D hD2) hS hA) (fun H1 locs1 hP1 hk1 hS1 => ?_)
  · rcases List.mem_append.mp hw with e1 | e1
    · simp only [List.mem_cons, List.not_mem_nil, or_false] at e1
      rcases e1 with e2 | e2 | e2 | e2
      · rw [e2]; exact hl
      · rw [e2]; exact hI.1
      · rw [e2]; exact hI.2
      · rw [e2]; exact m1
    · exact wm_in m2 w e1
  · exact kk r (kJ μ μ') h2 H1 locs1 ls (by rw [ew]; exact wl12_join hP2 hD2 hP1 (by rw [wl1_kJ] at hk1; exact hk1)) hS1 hl'
