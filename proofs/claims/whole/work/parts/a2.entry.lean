/-! THE LAW'S FIRST INSTRUCTIONS: two objects and a cell -/
theorem ad2_c {ad : Nat → Nat → Nat} {b b2 b3 κ : Nat} (h : 50 ≤ κ) : ad2 ad b b2 b3 κ = ad κ := by
  rw [← ad2_P (ad := ad) (b := b) (Or.inr h)]; exact adP_c h
theorem nqL_8 : NQ RL 8 13 17 [.null, .int 0, .int 0, .null, .null, .null, .null, .null, .null, .null, .null, .null, .int 0, .null, .int 0, .int 0, .null] := ⟨RX12, TX12, tyX12, rfl, inX12_t, tyX12_ok, q187, q188, q155, fun j hj => match j, hj with
  | 0, _ => rfl
  | 1, _ => rfl
  | 2, _ => rfl
  | 3, _ => rfl
  | 4, _ => rfl
  | 5, _ => rfl
  | 6, _ => rfl
  | 7, _ => rfl
  | 8, _ => rfl
  | 9, _ => rfl
  | 10, _ => rfl
  | 11, _ => rfl
  | 12, _ => rfl
  | 13, _ => rfl
  | 14, _ => rfl
  | 15, _ => rfl
  | 16, _ => rfl
  | _ + 17, hj => absurd hj (by omega)⟩
theorem nqL_124 : NQ RL 124 14 47 [.null, .null, .null, .null, .null, .int 0, .int 0, .int 0, .null, .null, .null, .null, .null, .null, .null, .null, .int 0, .int 0, .int 0, .int 0, .null, .int 0, .int 0, .int 0, .int 0, .int 0, .int 0, .int 0, .int 0, .int 0, .null, .null, .null, .null, .null, .null, .null, .null, .null, .int 0, .null, .int 0, .null, .null, .null, .null, .int 0] := ⟨RX13, TX13, tyX13, rfl, inX13_t, tyX13_ok, q2012, q2013, q173, fun j hj => match j, hj with
  | 0, _ => rfl
  | 1, _ => rfl
  | 2, _ => rfl
  | 3, _ => rfl
  | 4, _ => rfl
  | 5, _ => rfl
  | 6, _ => rfl
  | 7, _ => rfl
  | 8, _ => rfl
  | 9, _ => rfl
  | 10, _ => rfl
  | 11, _ => rfl
  | 12, _ => rfl
  | 13, _ => rfl
  | 14, _ => rfl
  | 15, _ => rfl
  | 16, _ => rfl
  | 17, _ => rfl
  | 18, _ => rfl
  | 19, _ => rfl
  | 20, _ => rfl
  | 21, _ => rfl
  | 22, _ => rfl
  | 23, _ => rfl
  | 24, _ => rfl
  | 25, _ => rfl
  | 26, _ => rfl
  | 27, _ => rfl
  | 28, _ => rfl
  | 29, _ => rfl
  | 30, _ => rfl
  | 31, _ => rfl
  | 32, _ => rfl
  | 33, _ => rfl
  | 34, _ => rfl
  | 35, _ => rfl
  | 36, _ => rfl
  | 37, _ => rfl
  | 38, _ => rfl
  | 39, _ => rfl
  | 40, _ => rfl
  | 41, _ => rfl
  | 42, _ => rfl
  | 43, _ => rfl
  | 44, _ => rfl
  | 45, _ => rfl
  | 46, _ => rfl
  | _ + 47, hj => absurd hj (by omega)⟩
theorem mmX12_init : MM yX12_init cX12_init 2 (none) 0 := ⟨q155, q191, by decide +kernel, by decide +kernel, by decide +kernel⟩
theorem mmX13_init : MM yX13_init cX13_init 1 (none) 0 := ⟨q173, q2016, by decide +kernel, by decide +kernel, by decide +kernel⟩
section EntryRuns
variable {p : Program} {l : Launch} {e : Env} {R : Room} {s : State} {m : MethodId} {args : Array Value} {below : List Frame} {meth : Method} {c : Code} {H : Heap} {locs : List Loc} {cells slots : Nat} {Q : State → Prop} {pc : Nat} {ls : Array Slot} {rest st0 : List Value} {a : Array Value} {A : Nat → Prop} {mc ms : Nat} {D : va_G} {ad : Nat → Nat → Nat} {ty : Nat → ClassId} {b : Nat} {es' : List va_E} {μ1 : Mem}
theorem run_goP (hr : va_Run p l e R s m args below meth c H locs cells slots mc ms (F0 m pc ls st0) rest (KQP D ad ty b μ1 a) (fromB b)) (hS : va_S A s.heap H locs) (hA : ∀ q : Nat, b ≤ q → A q)
    (kk : ∀ (H1 : Heap) (locs1 : List Loc), va_P D vwCl (wl 0 (adP ad b) ty μ1) H1 → b + 500 ≤ H1.size → va_S A s.heap H1 locs1 → W p l e R s m args below meth c H1 locs1 (cells + mc) (slots + ms) Q (F0 m (pc + 3) ls rest)) : W p l e R s m args below meth c H locs cells slots Q (F0 m pc ls st0) := by
  intro T hT X
  obtain ⟨v', st₀, t, T', L, h0, X', hL, e1, e2, ⟨hv, hz1, hP1, hf, hk⟩, st⟩ := hr T hT X
  cases hv
  rw [h0] at hf hk
  obtain ⟨t2, a1, b1⟩ := kk T'.heap (locs ++ L) (by rw [e1]; exact hP1) (by rw [e1]; exact hz1)
    ⟨Nat.le_trans hS.1 (by rw [e1]; exact hf), fun q h1 h2 => by rw [e1, hk q (Nat.lt_of_lt_of_le h1 hS.1) (fun z => h2 (hA q z))]; exact hS.2.1 q h1 h2, fun q hq => by
      rcases List.mem_append.mp hq with h | h
      · exact hS.2.2 q h
      · exact hA _ (hL q h)⟩ T' rfl X'
  exact ⟨t2, st t2 a1, b1⟩
theorem run_goK (hr : va_Run p l e R s m args below meth c H locs cells slots mc ms (F0 m pc ls st0) rest (KTQ D b es' a) (fromB b)) (hb : b ≤ H.size) (hS : va_S A s.heap H locs) (hA : ∀ q : Nat, b ≤ q → A q)
    (kk : ∀ (H1 : Heap) (locs1 : List Loc), (∀ q : Nat, q < b → H1[q]? = H[q]?) → va_P D vwCl (tp b es') H1 → H1.size = b + es'.length → va_S A s.heap H1 locs1 → W p l e R s m args below meth c H1 locs1 (cells + mc) (slots + ms) Q (F0 m (pc + 3) ls rest)) : W p l e R s m args below meth c H locs cells slots Q (F0 m pc ls st0) := by
  intro T hT X
  obtain ⟨v', st₀, t, T', L, h0, X', hL, e1, e2, ⟨hv, hz1, hP1, hf, hk⟩, st⟩ := hr T hT X
  cases hv
  rw [h0] at hf hk
  obtain ⟨t2, a1, b1⟩ := kk T'.heap (locs ++ L) (fun q hq => by rw [e1]; exact hk q (Nat.lt_of_lt_of_le hq hb) (Nat.not_le.mpr hq)) (by rw [e1]; exact hP1) (by rw [e1]; exact hz1)
    ⟨Nat.le_trans hS.1 (by rw [e1]; exact hf), fun q h1 h2 => by rw [e1, hk q (Nat.lt_of_lt_of_le h1 hS.1) (fun z => h2 (hA q z))]; exact hS.2.1 q h1 h2, fun q hq => by
      rcases List.mem_append.mp hq with h | h
      · exact hS.2.2 q h
      · exact hA _ (hL q h)⟩ T' rfl X'
  exact ⟨t2, st t2 a1, b1⟩
end EntryRuns
theorem wl_kept {D : va_G} {vv : Nat} {ad : Nat → Nat → Nat} {ty : Nat → ClassId} {μ : Mem} {H H1 : Heap} {b : Nat} (hP : va_P D vwCl (wl vv ad ty μ) H) (hb : H.size ≤ b) (hk : ∀ q : Nat, q < b → H1[q]? = H[q]?) : va_P D vwCl (wl vv ad ty μ) H1 := fun k q hq => (hP k q hq).kept (hk _ (Nat.lt_of_lt_of_le (hP k q hq).lt hb))
/-- the law's words at its entry -/
def LawX (p : Program) (l : Launch) (e : Env) (s : State) (m : MethodId) (below : List Frame) (meth : Method) (c : Code) (bs : Nat) (D : va_G) (ad : Nat → Nat → Nat) (ty : Nat → ClassId) (vv : Nat) : CX :=
  (p, l, e, room_1, s, m, #[Value.ref bs], below, meth, c, D, ad, ty, (fun q => s.heap.size ≤ q), lw_Z below #[Value.ref bs] s, 8, vv)
set_option maxHeartbeats 4000000 in
set_option maxRecDepth 100000 in
theorem law_entry {p : Program} {l : Launch} {e : Env} {s : State} {m : MethodId} {below : List Frame} {meth : Method} {c : Code} {bs : Nat} {D : va_G} {ad : Nat → Nat → Nat} {ty : Nat → ClassId} {fu : Nat} {μ1 : Mem} (hμ : fX3_begin fu 0 0 mu0 = some ((), μ1))
    (hx : p.tables.exec = Jvm.exec) (hb : c.code = code) (hml : c.maxLocals = 8) (hown : s.vm.findClass RL = some m.cls) (hts : ∀ w ∈ tb, w.before #[Value.ref bs] s = true) (hK : va_K D vwCl (tys ty) s) (hlk : meth.locks = false) (hZ : Cst ad (fun q => s.heap.size ≤ q) s s.heap) (hO : ∀ C ∈ aoL, va_AO C s)
    (hX : ∀ b2 b3 : Nat, Ok (LawX p l e s m below meth c bs D (ad2 ad s.heap.size b2 b3) ty 2) RL cL_law → J (LawX p l e s m below meth c bs D (ad2 ad s.heap.size b2 b3) ty 2) 530 23040 (mu2 μ1) 23 [(4, .int 0), (0, .ref bs), (1, .ref (ad2 ad s.heap.size b2 b3 0 0)), (2, .ref (ad2 ad s.heap.size b2 b3 26 0)), (3, .ref (ad2 ad s.heap.size b2 b3 31 0))] []) :
    W p l e room_1 s m #[Value.ref bs] below meth c s.heap [] 0 0 (lw_Z below #[Value.ref bs] s) (entryFrame m ([Value.ref bs] : List Value).toArray 8) := by
  have C : OT (LawX p l e s m below meth c bs D ad ty 0) RL cL_law s.heap.size := ⟨hx, hb, hml, hown, hts, hK, fun q h => h, Nat.le_refl _, hlk, hZ, hO⟩
  have R0 : Rm (LawX p l e s m below meth c bs D ad ty 0) 2048 84000 601024 7293034 := rfl
  have hA : ∀ q : Nat, s.heap.size ≤ q → (fun q => s.heap.size ≤ q) q := fun _ h => h
  have T : T1 (LawX p l e s m below meth c bs D ad ty 0) 0 0 s.heap.size [] 0 [(0, .ref bs)] [] := by
    refine t_new (j := 0) C R0 nqL_8 (Nat.le_of_ble_eq_true rfl) (Nat.le_of_ble_eq_true rfl) rfl dL_law_0 ?_
    refine t_dup C dL_law_3 rfl ?_
    intro H locs ls hP hz hS hl
    refine run_goP (va_runI (As := []) (rest := [.ref (s.heap.size + 0)]) ⟨hx, hb, hml, hown, hts⟩ (m_PE l D ad ty (s.heap.size + 0) fu hμ) (cwI 0 hts (tb_goodIn (wm_in mmX12_init.2.1)) rfl rfl rfl (hts _ mmX12_init.1) (hts _ q189) (hts _ q190) rfl mmX12_init.2.2 ⟨Nat.le_of_ble_eq_true rfl, Nat.le_of_ble_eq_true rfl⟩) ⟨ktp_blind, ktp_pre (es := []) rfl hP hz hK hS hA hZ hO⟩ rfl rfl hl.1 rfl (lv_room (Nat.le_of_ble_eq_true rfl)) dL_law_4 ⟨Nat.le_of_ble_eq_true rfl, Nat.le_of_ble_eq_true rfl⟩) hS hA (fun H1 locs1 hP1 hz1 hS1 => ?_)
    refine lv_astore_n hx hb dL_law_7 rfl hl (by decide) (lv' := [(1, .ref (s.heap.size + 0)), (0, .ref bs)]) rfl (fun ls1 hl1 => ?_)
    obtain ⟨C0, T0, ty0, f1, f2, f3, f4, f5, f6, f7⟩ := nqL_124
    have hKn := hK.1 14 _ f1
    refine W.newcK hx hb hown (hts _ f4) (hts _ f5) (hts _ f6) rfl dL_law_8 (Nat.le_of_ble_eq_true rfl) (Nat.le_of_ble_eq_true rfl) hKn.2.1 rfl fun H2 kC hkC e2 z2 o2 => ?_
    have hP2 : va_P D vwCl (tp H1.size ([] ++ [.inr (14, [.null, .null, .null, .null, .null, .int 0, .int 0, .int 0, .null, .null, .null, .null, .null, .null, .null, .null, .int 0, .int 0, .int 0, .int 0, .null, .int 0, .int 0, .int 0, .int 0, .int 0, .int 0, .int 0, .int 0, .int 0, .null, .null, .null, .null, .null, .null, .null, .null, .null, .int 0, .null, .int 0, .null, .null, .null, .null, .int 0])])) H2 := tp_push (es := []) (b := H1.size) (by simp) (fun k q h => by simp [tp] at h) o2 ⟨_, f1, (u_born ty0 hts f2 hKn hkC e2 f3).to f7⟩
    have hS2 := va_S_grow hS1 (by omega) o2
    refine lv_dup hx hb dL_law_11 rfl ?_
    refine run_goK (va_runI (As := []) (rest := [.ref H1.size]) ⟨hx, hb, hml, hown, hts⟩ (mtX13_init l D ad ty H1.size) (cwI 0 hts (tb_goodIn (wm_in mmX13_init.2.1)) rfl rfl rfl (hts _ mmX13_init.1) (hts _ q2014) (hts _ q2015) rfl mmX13_init.2.2 ⟨Nat.le_of_ble_eq_true rfl, Nat.le_of_ble_eq_true rfl⟩) ⟨ktp_blind, ktp_pre (b := H1.size) (j := 0) (es := []) rfl hP2 (by rw [z2]; rfl) hK hS2 (fun q h => Nat.le_trans hS1.1 h) hZ hO⟩ rfl rfl hl1.1 rfl (lv_room (Nat.le_of_ble_eq_true rfl)) dL_law_12 ⟨Nat.le_of_ble_eq_true rfl, Nat.le_of_ble_eq_true rfl⟩) (by omega) hS2 (fun q h => Nat.le_trans hS1.1 h) (fun H3 locs3 hk3 hP3 hz3 hS3 => ?_)
    refine lv_astore_n hx hb dL_law_15 rfl hl1 (by decide) (lv' := [(2, .ref H1.size), (1, .ref (s.heap.size + 0)), (0, .ref bs)]) rfl (fun ls2 hl2 => ?_)
    refine lv_iconst hx hb dL_law_16 (v := 1) (by decide) ?_
    refine va_newaK (atype := .long) hx hb (hts _ q2881) rfl dL_law_17 rfl (by decide) (N := 1) (by decide) (Nat.le_of_ble_eq_true rfl) (Nat.le_of_ble_eq_true rfl) (Nat.le_of_ble_eq_true rfl) rfl fun H4 cA e4 z4 o4 hAr hNm => ?_
    have hc : cA = ty 3 := Option.some.inj (hNm.symm.trans (hK.2 3 (ty 3, .long) rfl).2)
    subst hc
    refine lv_astore_n hx hb dL_law_19 rfl hl2 (by decide) (lv' := [(3, .ref H3.size), (2, .ref H1.size), (1, .ref (s.heap.size + 0)), (0, .ref bs)]) rfl (fun ls3 hl3 => ?_)
    refine lv_iconst hx hb dL_law_20 (v := 0) (by decide) ?_
    refine lv_istore hx hb dL_law_21 hl3 (by decide) (lv' := [(4, .int 0), (3, .ref H3.size), (2, .ref H1.size), (1, .ref (s.heap.size + 0)), (0, .ref bs)]) rfl (fun ls4 hl4 => ?_)
    have k1 : ∀ q : Nat, q < H1.size → H4[q]? = H1[q]? := fun q hq => by rw [o4 q (by omega), hk3 q hq, o2 q hq]
    have w0 : va_P D vwCl (wl 0 (adP ad (s.heap.size + 0)) ty μ1) H4 := wl_kept hP1 (Nat.le_refl _) k1
    have w1 : va_P D vwCl (tp H1.size (tcMod ad ty H1.size)) H4 := fun k q hq => (hP3 k q hq).kept (o4 _ (hP3 k q hq).lt)
    have w2 : va_at D vwCl (H3.size, .inl (ty 3, 1, .inr (.inl (fun _ => 0)))) H4 := e4
    have z0 : s.heap.size + 500 ≤ H1.size := hz1
    have z29 : H1.size + 29 ≤ H3.size := by rw [hz3]; exact Nat.le_refl _
    exact hX H1.size H3.size ⟨hx, hb, hml, hown, hts, hK, fun μ => w2_apart z0 z29 hA, fun q h => h, hlk, hZ.agree (fun κ h => ad2_c h)⟩ H4 locs3 ls4 (m_world w0 w1 w2) (va_S_grow hS3 (by omega) o4) (lv_sub hl4 [0, 4, 3, 2, 1] rfl)
  rw [lg_entry_eq]
  exact T s.heap [] _ (fun k q h => by simp [tp] at h) rfl va_S.rf (lv_entry [Value.ref bs] (Nat.le_of_ble_eq_true rfl))
