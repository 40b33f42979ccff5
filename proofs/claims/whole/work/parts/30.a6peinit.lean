/-! PinEngines.<init>: what it makes is the class's world -/
theorem cells_lt {kinds : List KD} {κ n : Nat} (h : (κ, n) ∈ cellsOf kinds) : κ < kinds.length ∧ n < (kinds.getD κ (0, .inl (0, []))).1 := by
  unfold cellsOf at h
  obtain ⟨a, ha, h2⟩ := List.mem_flatMap.mp h
  obtain ⟨c, hc, e⟩ := List.mem_map.mp h2
  cases e
  exact ⟨List.mem_range.mp ha, List.mem_range.mp hc⟩
set_option maxRecDepth 100000 in
theorem pe_world {D : va_G} {ad : Nat → Nat → Nat} {ty : Nat → ClassId} {b : Nat} {H : Heap} (hP : va_P D vwCl (tp b (peE ad ty b 10 10)) H) : va_P D vwCl (wl 0 (adP ad b) ty mu0) H := by
  intro k q hq
  unfold wl wlK at hq
  rw [List.getElem?_map] at hq
  cases hc : (cellsOf (kdL 0))[k]? with
  | none => rw [hc] at hq; cases hq
  | some z =>
    rw [hc] at hq
    cases hq
    obtain ⟨κ, n⟩ := z
    obtain ⟨h1, h2⟩ := cells_lt (List.mem_of_getElem? hc)
    match κ, h1, h2 with
    | 0, _, h2 => have h2 : n < 1 := h2; obtain rfl : n = 0 := by omega
                  exact pk_0 hP
    | 1, _, h2 => have h2 : n < 1 := h2; obtain rfl : n = 0 := by omega
                  exact pk_1 hP
    | 2, _, h2 => have h2 : n < 1 := h2; obtain rfl : n = 0 := by omega
                  exact pk_2 hP
    | 3, _, h2 => have h2 : n < 1 := h2; obtain rfl : n = 0 := by omega
                  exact pk_3 hP
    | 4, _, h2 => exact pk_4 hP h2
    | 5, _, h2 => exact pk_5 hP h2
    | 6, _, h2 => exact pk_6 hP h2
    | 7, _, h2 => exact pk_7 hP h2
    | 8, _, h2 => exact pk_8 hP h2
    | 9, _, h2 => exact pk_9 hP h2
    | 10, _, h2 => have h2 : n < 1 := h2; obtain rfl : n = 0 := by omega
                   exact pk_10 hP
    | 11, _, h2 => exact pk_11 hP h2
    | 12, _, h2 => exact pk_12 hP h2
    | 13, _, h2 => exact pk_13 hP h2
    | 14, _, h2 => exact pk_14 hP h2
    | 15, _, h2 => exact pk_15 hP h2
    | 16, _, h2 => exact pk_16 hP h2
    | 17, _, h2 => exact pk_17 hP h2
    | 18, _, h2 => exact pk_18 hP h2
    | 19, _, h2 => exact pk_19 hP h2
    | 20, _, h2 => exact pk_20 hP h2
    | 21, _, h2 => exact pk_21 hP h2
    | 22, _, h2 => have h2 : n < 1 := h2; obtain rfl : n = 0 := by omega
                   exact pk_22 hP
    | 23, _, h2 => have h2 : n < 1 := h2; obtain rfl : n = 0 := by omega
                   exact pk_23 hP
    | 24, _, h2 => exact pk_24 hP h2
    | 25, _, h2 => have h2 : n < 1 := h2; obtain rfl : n = 0 := by omega
                   exact pk_25 hP
    | 26, _, h2 => exact absurd h2 (Nat.not_lt_zero n)
    | 27, _, h2 => exact absurd h2 (Nat.not_lt_zero n)
    | 28, _, h2 => exact absurd h2 (Nat.not_lt_zero n)
    | 29, _, h2 => exact absurd h2 (Nat.not_lt_zero n)
    | 30, _, h2 => exact absurd h2 (Nat.not_lt_zero n)
    | 31, _, h2 => exact absurd h2 (Nat.not_lt_zero n)
    | 32, _, h2 => have h2 : n < 1 := h2; obtain rfl : n = 0 := by omega
                   exact pk_32 hP
    | 33, _, h2 => have h2 : n < 1 := h2; obtain rfl : n = 0 := by omega
                   exact pk_33 hP
    | κ + 34, h1, _ => exact absurd (show κ + 34 < 34 from h1) (by omega)
/-- addresses are apart where their offsets are -/
theorem wl_apart {vv : Nat} {ad : Nat → Nat → Nat} {ty : Nat → ClassId} {μ : Mem} {A : Nat → Prop} {N : Nat} (φ : Nat → Nat) (off : Nat × Nat → Nat) (hφ : ∀ x y, x < N → y < N → φ x = φ y → x = y) (hoff : ((cellsOf (kdL vv)).map off).Nodup) (hlt : ∀ q ∈ cellsOf (kdL vv), off q < N) (had : ∀ q ∈ cellsOf (kdL vv), ad q.1 q.2 = φ (off q)) (hA : ∀ q ∈ cellsOf (kdL vv), A (ad q.1 q.2)) : va_D A (wl vv ad ty μ) := by
  have key : ∀ (i : Nat) (p : Nat × va_E), (wl vv ad ty μ)[i]? = some p → ∃ q, (cellsOf (kdL vv))[i]? = some q ∧ p.1 = ad q.1 q.2 := by
    intro i p h
    unfold wl wlK at h
    rw [List.getElem?_map] at h
    cases hc : (cellsOf (kdL vv))[i]? with
    | none => rw [hc] at h; cases h
    | some q => rw [hc] at h; cases h; exact ⟨q, rfl, rfl⟩
  refine ⟨fun i j p q h1 h2 h => ?_, fun k p h => ?_⟩
  · obtain ⟨x, x1, x2⟩ := key i p h1
    obtain ⟨y, y1, y2⟩ := key j q h2
    have mx := List.mem_of_getElem? x1
    have my := List.mem_of_getElem? y1
    have e : off x = off y := hφ _ _ (hlt x mx) (hlt y my) (by rw [← had x mx, ← had y my, ← x2, ← y2]; exact h)
    have e1 : ((cellsOf (kdL vv)).map off)[i]? = some (off x) := by rw [List.getElem?_map, x1]; rfl
    have e2 : ((cellsOf (kdL vv)).map off)[j]? = some (off x) := by rw [List.getElem?_map, y1, e]; rfl
    exact (List.getElem?_inj (List.getElem?_eq_some_iff.mp e1).1 hoff).mp (e1.trans e2.symm)
  · obtain ⟨x, x1, x2⟩ := key k p h
    rw [x2]
    exact hA x (List.mem_of_getElem? x1)
set_option maxRecDepth 100000 in
theorem off0_nodup : ((cellsOf (kdL 0)).map (fun q => offC q.1 q.2)).Nodup := by decide +kernel
set_option maxRecDepth 100000 in
theorem off0_lt : ∀ q ∈ cellsOf (kdL 0), offC q.1 q.2 < 500 := by decide +kernel
set_option maxRecDepth 100000 in
theorem off0_is : ∀ q ∈ cellsOf (kdL 0), isC q.1 = true := by decide +kernel
theorem pe_apart {ad : Nat → Nat → Nat} {ty : Nat → ClassId} {μ : Mem} {A : Nat → Prop} {b : Nat} (hA : ∀ q, b ≤ q → A q) : va_D A (wl 0 (adP ad b) ty μ) :=
  wl_apart (N := 500) (fun x => b + x) (fun q => offC q.1 q.2) (fun x y _ _ h => Nat.add_left_cancel h) off0_nodup off0_lt (fun q hq => if_pos (off0_is q hq)) (fun q hq => by rw [show adP ad b q.1 q.2 = b + offC q.1 q.2 from if_pos (off0_is q hq)]; exact hA _ (Nat.le_add_right _ _))
/-- constants lie elsewhere -/
theorem Cst.agree {ad ad' : Nat → Nat → Nat} {A : Nat → Prop} {U : State} {H : Heap} (h : ∀ κ, 50 ≤ κ → ad' κ = ad κ) (hZ : Cst ad A U H) : Cst ad' A U H := by
  unfold Cst at hZ ⊢
  rw [h 50 (by decide), h 51 (by decide), h 52 (by decide), h 53 (by decide), h 54 (by decide), h 56 (by decide), h 57 (by decide)]
  exact hZ
theorem adP_c {ad : Nat → Nat → Nat} {b κ : Nat} (h : 50 ≤ κ) : adP ad b κ = ad κ := funext fun n => if_neg (by unfold isC; simp; omega)
def KQP (D : va_G) (ad : Nat → Nat → Nat) (ty : Nat → ClassId) (b : Nat) (μ : Mem) : Array Value → State → Outcome → State → Prop := fun _ st oc t => oc = .returned none ∧ b + 500 ≤ t.heap.size ∧ va_P D vwCl (wl 0 (adP ad b) ty μ) t.heap ∧ va_F (fromB b) st t
theorem pe_size {D : va_G} {ad : Nat → Nat → Nat} {ty : Nat → ClassId} {b : Nat} {μ : Mem} {H : Heap} (hP : va_P D vwCl (wl 0 (adP ad b) ty μ) H) : b + 500 ≤ H.size := by
  obtain ⟨q0, hq⟩ := cell_at (kk21 0) (show 51 < 52 by decide)
  have h := hP q0 _ (wl_at hq)
  have h2 := h.lt
  have e : adP ad b 21 51 = b + 499 := rfl
  rw [show (adP ad b (21, 51).1 (21, 51).2) = b + 499 from rfl] at h2
  omega
set_option maxHeartbeats 4000000 in
set_option maxRecDepth 100000 in
theorem m_PE (l : Launch) (D : va_G) (ad : Nat → Nat → Nat) (ty : Nat → ClassId) (b fu : Nat) {μ1 : Mem} (hμ : fX3_begin fu 0 0 mu0 = some ((), μ1)) : Met l yX12_init (wm yX12_init cX12_init 2 none) (rm4 5 110 499 10296) (KTP D ad ty b [.inr (13, [.null, .int 0, .int 0, .null, .null, .null, .null, .null, .null, .null, .null, .null, .int 0, .null, .int 0, .int 0, .null])] [.ref b]) (KQP D ad ty b μ1) 499 10296 (fromB b) := by
  refine Met.ofW (cc := cX12_init) (maxL := 2) (ret := none) (by decide) rfl ?_
  intro p e s m args below meth c s₁ B hml hv
  obtain ⟨rfl, hsz, hP, hK, hZ, hO⟩ := hv
  have hts := atoms_spec (ws := wm yX12_init cX12_init 2 none) B.pre
  have hin : meth.name = "<init>" := (name_of_methodNamed B.named B.method).1
  have hb : b + 1 = s.heap.size := hsz.symm
  have hts2 : ∀ w ∈ tb, w.before [Value.ref b].toArray s = true := fun w hw => hts w (List.mem_cons_of_mem _ hw)
  have C : OT (p, l, e, (headSpec (wm yX12_init cX12_init 2 none) (rm4 5 110 499 10296)).room, s, m, [Value.ref b].toArray, below, meth, c, D, ad, ty, fromB b, MQ below (KQP D ad ty b μ1) [Value.ref b].toArray s 499 10296 (fromB b), 2, 0) RX12 cX12_init b :=
    ⟨B.exec, B.bytes, hml, findClass_of_methodNamed B.named, hts2, hK, fun q h => h, by omega, B.notSynchronized, hZ, hO⟩
  have h1 := pe_tape _ b C hin (fun i h => h) rfl (by
    intro H locs ls hP2 hz2 hS2 hl2
    have C2 : Ok (p, l, e, (headSpec (wm yX12_init cX12_init 2 none) (rm4 5 110 499 10296)).room, s, m, [Value.ref b].toArray, below, meth, c, D, adP ad b, ty, fromB b, MQ below (KQP D ad ty b μ1) [Value.ref b].toArray s 499 10296 (fromB b), 2, 0) RX12 cX12_init :=
      ⟨B.exec, B.bytes, hml, findClass_of_methodNamed B.named, hts2, hK, fun μ => pe_apart (fun q h => h), fun q h => (by show b ≤ q; omega), B.notSynchronized, hZ.agree (fun κ h => adP_c h)⟩
    have G1 : G (p, l, e, (headSpec (wm yX12_init cX12_init 2 none) (rm4 5 110 499 10296)).room, s, m, [Value.ref b].toArray, below, meth, c, D, adP ad b, ty, fromB b, MQ below (KQP D ad ty b μ1) [Value.ref b].toArray s 499 10296 (fromB b), 2, 0) () 499 10296 mu0 212 [(0, .ref (adP ad b 0 0))] [] (some ()) := by
      refine s_aload_n C2 dX12_init_212 rfl 0 rfl ?_
      refine s_getF C2 (fgX12_51_0 _) (by decide) dX12_init_213 ?_
      refine s_aload_n C2 dX12_init_216 rfl 0 rfl ?_
      refine s_getM C2 (fgX12_32_0 _) (by decide) dX12_init_217 ?_
      refine b_call (r := ()) hμ (s_callV (fr := 5) (lo := 110) (mcX := 499) (msX := 10296) C2 rfl (kX3_begin l fu 0 (by decide) 0 (by decide)) (Nat.le_refl 0) mmX3_begin miX3_begin q709 (rc12 _) (by decide) rfl rfl rfl (Nat.le_of_ble_eq_true rfl) ⟨Nat.le_of_ble_eq_true rfl, Nat.le_of_ble_eq_true rfl, Nat.le_of_ble_eq_true rfl, Nat.le_of_ble_eq_true rfl⟩ dX12_init_220 (fun r2 μ2 hq => ?_))
      obtain ⟨e2, -⟩ := grd_inv hq
      cases e2
      intro H3 locs3 ls3 hP3 hS3 hl3
      exact W.vret B.exec B.bytes B.returns (fun t ht hW => ⟨rfl, by rw [ht]; exact pe_size hP3, by rw [ht]; exact hP3, hS3.F ht⟩) hS3.2.2 dX12_init_223
    exact G1 rfl H locs ls (pe_world hP2) hS2 (lv_sub hl2 [1] rfl))
  rw [lg_entry_eq]
  exact h1 s.heap [] _ hP hsz va_S.rf (lv_entry [Value.ref b] (Nat.le_of_ble_eq_true rfl))
