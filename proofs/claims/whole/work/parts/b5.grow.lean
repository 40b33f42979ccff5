/-! THE BUILDER'S BYTES MOVE: Arrays.copyOf, ensureCapacityInternal -/
theorem q1726 : (Cond.static ({ cls := "java/util/Arrays", name := "copyOf", desc := "([BI)[B" } : Jvm.MethodName)) ∈ tb := tb_of (lw_c7 (List.mem_of_getElem? (i := 132) (by decide +kernel))) rfl
theorem q1727 : (Cond.code ({ cls := "java/util/Arrays", name := "copyOf", desc := "([BI)[B" } : Jvm.MethodName) prog_37_method_121_code (3 : Nat) (Option.some (Jvm.ClassFile.FieldType.array Jvm.ClassFile.FieldType.byte))) ∈ tb := tb_of (lw_c7 (List.mem_of_getElem? (i := 133) (by decide +kernel))) rfl
theorem q1735 : (Cond.methodLink "java/util/Arrays" (304 : Nat) ({ cls := "java/lang/Math", name := "min", desc := "(II)I" } : Jvm.MethodName)) ∈ tb := tb_of (lw_c7 (List.mem_of_getElem? (i := 141) (by decide +kernel))) rfl
theorem q1736 : (Cond.methodLink "java/util/Arrays" (150 : Nat) ({ cls := "java/lang/System", name := "arraycopy", desc := "(Ljava/lang/Object;ILjava/lang/Object;II)V" } : Jvm.MethodName)) ∈ tb := tb_of (lw_c7 (List.mem_of_getElem? (i := 142) (by decide +kernel))) rfl
theorem q2887 : (Cond.sameMethod "java/lang/AbstractStringBuilder" "java/lang/AbstractStringBuilder" "newCapacity" "(I)I") ∈ tb := tb_of (lw_c12 (List.mem_of_getElem? (i := 93) (by decide +kernel))) rfl
theorem fpJ5_value (vv : Nat) : FP vv RJ5 15 32 1 0 (some (33, some (fun _ => 0))) (.array .byte) := ⟨1, _, RJ4, TJ4, tyJ4, kk32 _, rfl, inJ4, rfl, q695, tyJ4_ok, nmJ4, rfl, by decide +kernel⟩
theorem mmJ5_newCapacity_0f7a4 : MM yJ5_newCapacity_0f7a4 cJ5_newCapacity_0f7a4 6 (some .int) 1 := ⟨q168, q1715, by decide +kernel, by decide +kernel, by decide +kernel⟩
theorem mmJ7_copyOf_9075b : MM yJ7_copyOf_9075b cJ7_copyOf_9075b 3 (some (.array .byte)) 2 := ⟨q186, q1727, by decide +kernel, by decide +kernel, by decide +kernel⟩
theorem muJ5_newCapacity_0f7a4 : MVp yJ5_newCapacity_0f7a4 := ⟨q1714, q2887, rfl, Or.inl (List.mem_of_getElem? (i := 1) rfl)⟩
/-! kinds that don't speak of the bytes -/
def no33 (d : KD) : Bool := match d.2 with
  | .inl (_, sl) => sl.all fun sp => match sp with
    | none => true
    | some (κ, _) => κ != 33
  | .inr (_, _, el) => match el with
    | some (some (κ, _)) => κ != 33
    | _ => true
theorem sv_am {ad : Nat → Nat → Nat} {w n k : Nat} {a : Nat → Int32} {b : Nat → Nat} {sp : SP} (h : (match sp with | none => true | some (κ, _) => κ != 33) = true) : sv (am ad w) n a b k sp = sv ad n a b k sp := by
  match sp, h with
  | none, _ => rfl
  | some (κ, none), h =>
    show Value.ref (am ad w κ (b k)) = .ref (ad κ (b k))
    rw [am_o (by simpa using h)]
  | some (κ, some g), h =>
    show Value.ref (am ad w κ (g n)) = .ref (ad κ (g n))
    rw [am_o (by simpa using h)]
theorem cellD_am {ad : Nat → Nat → Nat} {ty : Nat → ClassId} {w n : Nat} {a : Nat → Int32} {b : Nat → Nat} {c : Nat → Int64} {d : KD} (h : no33 d = true) : cellD (am ad w) ty n a b c d = cellD ad ty n a b c d := by
  obtain ⟨cnt, (⟨ci, sl⟩ | ⟨t, len, el⟩)⟩ := d
  · show (Sum.inr (ci, sl.mapIdx (fun k sp => sv (am ad w) n a b k sp)) : va_E) = .inr (ci, sl.mapIdx (fun k sp => sv ad n a b k sp))
    congr 2
    refine List.ext_getElem? fun i => ?_
    rw [List.getElem?_mapIdx, List.getElem?_mapIdx]
    cases hs : sl[i]? with
    | none => rfl
    | some sp =>
      simp only [Option.map_some]
      have h1 := List.all_eq_true.mp h sp (List.mem_of_getElem? hs)
      rw [sv_am h1]
  · match el, h with
    | none, _ => rfl
    | some none, _ => rfl
    | some (some (κ, none)), h =>
      show (Sum.inl (ty t, len b n, .inr (.inr (.inr (.inr (fun k => some (am ad w κ (b k))))))) : va_E) = .inl (ty t, len b n, .inr (.inr (.inr (.inr (fun k => some (ad κ (b k)))))))
      rw [am_f (by simpa [no33] using h)]
    | some (some (κ, some g)), h =>
      show (Sum.inl (ty t, len b n, .inr (.inr (.inr (.inr (fun k => some (am ad w κ (g n k))))))) : va_E) = .inl (ty t, len b n, .inr (.inr (.inr (.inr (fun k => some (ad κ (g n k)))))))
      rw [am_f (by simpa [no33] using h)]
theorem no33_0 : ∀ κ, κ < 34 → κ ≠ 32 → no33 ((kdL 0).getD κ (0, .inl (0, []))) = true := by decide +kernel
theorem no33_1 : ∀ κ, κ < 34 → κ ≠ 32 → no33 ((kdL 1).getD κ (0, .inl (0, []))) = true := by decide +kernel
theorem no33_2 : ∀ κ, κ < 34 → κ ≠ 32 → no33 ((kdL 2).getD κ (0, .inl (0, []))) = true := by decide +kernel
theorem no33_at (vv κ : Nat) (h : κ ≠ 32) : no33 ((kdL vv).getD κ (0, .inl (0, []))) = true := by
  by_cases h34 : κ < 34
  · match vv with
    | 0 => exact no33_0 κ h34 h
    | 1 => exact no33_1 κ h34 h
    | vv + 2 => rw [kdL_big]; exact no33_2 κ h34 h
  · rw [List.getD_eq_getElem?_getD, List.getElem?_eq_none (by show (kdL vv).length ≤ κ; exact Nat.le_of_not_lt h34)]
    rfl
theorem cellK_am {vv : Nat} {ad : Nat → Nat → Nat} {ty : Nat → ClassId} {μ : Mem} {w κ n : Nat} (h : κ ≠ 32) : cellK (kdL vv) (am ad w) ty μ κ n = cellK (kdL vv) ad ty μ κ n := cellD_am (no33_at vv κ h)
/-- the bytes, copied into a longer row -/
def gcp (μ : Mem) (k : Nat) : Int32 := if k < bcap μ then μ.1 33 0 k else 0
/-- the builder with a row of N bytes -/
def gwN (N : Nat) (μ : Mem) : Mem := (fun a b k => if a = 33 ∧ b = 0 then gcp μ k else μ.1 a b k, up3 μ.2.1 33 0 0 N, μ.2.2)
theorem gwN_o {N a b : Nat} {μ : Mem} (h : ¬ (a = 33 ∧ b = 0)) : (gwN N μ).1 a b = μ.1 a b ∧ (gwN N μ).2.1 a b = μ.2.1 a b ∧ (gwN N μ).2.2 a b = μ.2.2 a b := ⟨funext fun _ => if_neg h, up3_ne h, rfl⟩
/-- the world whose builder has been given the fresh row w -/
theorem world_grow {D : va_G} {vv : Nat} {ad : Nat → Nat → Nat} {ty : Nat → ClassId} {μ : Mem} {w N q32 : Nat} {A : Nat → Prop} {H : Heap} (hq : (cellsOf (kdL vv))[q32]? = some (32, 0))
    (hP : va_P D vwCl ((wl vv ad ty μ ++ [(w, .inl (ty 1, N, .inl (gcp μ)))] : va_W).set q32 (ad 32 0, .inr (1, ((kd32.2.getLeft?.map Prod.snd).getD []).mapIdx (fun k sp => sv ad 0 (μ.1 32 0) (μ.2.1 32 0) k sp) |>.set 0 (.ref w)))) H)
    (hD : va_D A ((wl vv ad ty μ ++ [(w, .inl (ty 1, N, .inl (gcp μ)))] : va_W).set q32 (ad 32 0, .inr (1, ((kd32.2.getLeft?.map Prod.snd).getD []).mapIdx (fun k sp => sv ad 0 (μ.1 32 0) (μ.2.1 32 0) k sp) |>.set 0 (.ref w))))) :
    va_P D vwCl (wl vv (am ad w) ty (gwN N μ)) H ∧ va_D A (wl vv (am ad w) ty (gwN N μ)) := by
  obtain ⟨q33, h33⟩ := cell_at (kk33 vv) (show 0 < 1 by decide)
  have hne : q32 ≠ q33 := fun e => by rw [e, h33] at hq; cases hq
  have hlen : (wl vv ad ty μ).length = (cellsOf (kdL vv)).length := List.length_map ..
  have l32 : q32 < (cellsOf (kdL vv)).length := (List.getElem?_eq_some_iff.mp hq).1
  have key : ∀ (k : Nat) (q : Nat × va_E), (wl vv (am ad w) ty (gwN N μ))[k]? = some q → ((wl vv ad ty μ ++ [(w, .inl (ty 1, N, .inl (gcp μ)))] : va_W).set q32 (ad 32 0, .inr (1, ((kd32.2.getLeft?.map Prod.snd).getD []).mapIdx (fun k sp => sv ad 0 (μ.1 32 0) (μ.2.1 32 0) k sp) |>.set 0 (.ref w))))[if k = q33 then (cellsOf (kdL vv)).length else k]? = some q ∧ k < (cellsOf (kdL vv)).length := by
    intro k q hk
    unfold wl wlK at hk
    rw [List.getElem?_map] at hk
    cases hc : (cellsOf (kdL vv))[k]? with
    | none => rw [hc] at hk; cases hk
    | some z =>
      obtain ⟨κ, n⟩ := z
      have hkl : k < (cellsOf (kdL vv)).length := (List.getElem?_eq_some_iff.mp hc).1
      rw [hc] at hk
      have hq2 := Option.some.inj hk
      subst hq2
      refine ⟨?_, hkl⟩
      by_cases h3 : k = q33
      · subst h3
        obtain ⟨rfl, rfl⟩ := Prod.mk.inj (Option.some.inj (hc.symm.trans h33))
        rw [if_pos rfl, List.getElem?_set_ne (Nat.ne_of_lt l32), ← hlen, List.getElem?_concat_length]
        show some (w, _) = some (am ad w 33 0, cellK (kdL vv) (am ad w) ty (gwN N μ) 33 0)
        rw [am_at, cellK, kd_getD (kk33 vv)]
        show some (w, _) = some (w, (Sum.inl (ty 1, up3 μ.2.1 33 0 0 N 33 0 0, Sum.inl (fun k => (gwN N μ).1 33 0 k)) : va_E))
        rw [show up3 μ.2.1 33 0 0 N 33 0 0 = N from if_pos ⟨rfl, rfl, rfl⟩, show (fun k => (gwN N μ).1 33 0 k) = gcp μ from funext fun k => (if_pos ⟨rfl, rfl⟩ : (if 33 = 33 ∧ 0 = 0 then gcp μ k else μ.1 33 0 k) = gcp μ k)]
      · rw [if_neg h3]
        have h33n : ¬ (κ = 33 ∧ n = 0) := by
          rintro ⟨rfl, rfl⟩
          exact h3 ((List.getElem?_inj hkl (kd_nodup vv)).mp (hc.trans h33.symm))
        have hκ33 : ¬ κ = 33 := by
          intro e
          subst e
          have hm := List.mem_of_getElem? hc
          unfold cellsOf at hm
          obtain ⟨κ', -, h2⟩ := List.mem_flatMap.mp hm
          obtain ⟨n', h4, h5⟩ := List.mem_map.mp h2
          obtain ⟨rfl, rfl⟩ := Prod.mk.inj h5
          have h6 := List.mem_range.mp h4
          rw [kd_getD (kk33 vv)] at h6
          exact h33n ⟨rfl, Nat.lt_one_iff.mp h6⟩
        obtain ⟨e1, e2, e3⟩ := gwN_o (N := N) (μ := μ) h33n
        by_cases h2 : k = q32
        · subst h2
          obtain ⟨rfl, rfl⟩ := Prod.mk.inj (Option.some.inj (hc.symm.trans hq))
          rw [List.getElem?_set_self (by rw [List.length_append, hlen]; omega)]
          show some (ad 32 0, _) = some (am ad w 32 0, cellK (kdL vv) (am ad w) ty (gwN N μ) 32 0)
          rw [am_o hκ33, cellK, kd_getD (kk32 vv), e1, e2]
          show some (ad 32 0, (Sum.inr (1, [Value.ref w, .int (μ.1 32 0 1), .int (μ.1 32 0 2), .int (μ.1 32 0 3)]) : va_E)) = some (ad 32 0, (Sum.inr (1, [Value.ref (am ad w 33 0), .int (μ.1 32 0 1), .int (μ.1 32 0 2), .int (μ.1 32 0 3)]) : va_E))
          rw [am_at]
        · rw [List.getElem?_set_ne (fun e => h2 e.symm), List.getElem?_append_left (by rw [hlen]; exact hkl), wl_at hc]
          show some (ad κ n, _) = some (am ad w κ n, cellK (kdL vv) (am ad w) ty (gwN N μ) κ n)
          have h32 : κ ≠ 32 := by
            intro e
            subst e
            have hm := List.mem_of_getElem? hc
            unfold cellsOf at hm
            obtain ⟨κ', -, h2'⟩ := List.mem_flatMap.mp hm
            obtain ⟨n', h4, h5⟩ := List.mem_map.mp h2'
            obtain ⟨rfl, rfl⟩ := Prod.mk.inj h5
            have h6 := List.mem_range.mp h4
            rw [kd_getD (kk32 vv)] at h6
            obtain rfl := Nat.lt_one_iff.mp h6
            exact h2 ((List.getElem?_inj hkl (kd_nodup vv)).mp (hc.trans hq.symm))
          rw [am_o hκ33, cellK_am h32]
          unfold cellK
          rw [e1, e2, e3]
  have inj : ∀ i j : Nat, i < (cellsOf (kdL vv)).length → j < (cellsOf (kdL vv)).length → (if i = q33 then (cellsOf (kdL vv)).length else i) = (if j = q33 then (cellsOf (kdL vv)).length else j) → i = j := by
    intro i j hi hj he
    split at he <;> split at he <;> omega
  exact ⟨fun k q hk => hP _ q (key k q hk).1, fun i j p q h1 h2 he => inj i j (key i p h1).2 (key j q h2).2 (hD.1 _ _ p q (key i p h1).1 (key j q h2).1 he), fun k q hk => hD.2 _ q (key k q hk).1⟩
/-! Arrays.copyOf -/
def KQF (vv : Nat) (D : va_G) (ad : Nat → Nat → Nat) (ty : Nat → ClassId) (μ : Mem) (n : Nat) (g : Nat → Int32) (A : Nat → Prop) : Array Value → State → Outcome → State → Prop := fun _ st oc t => ∃ w : Nat, oc = .returned (some (.ref w)) ∧ va_P D vwCl (wl vv ad ty μ ++ [(w, .inl (ty 1, n, .inl g))] : va_W) t.heap ∧ va_D A (wl vv ad ty μ ++ [(w, .inl (ty 1, n, .inl g))] : va_W) ∧ va_F A st t
def FenF : CX → Mem → Nat → (Nat → Int32) → Prop
  | (p, l, e, R, s, m, args, below, meth, c, D, ad, ty, A, Q, nL, vv), μ, N, g => meth.sig.returnType = some (.array .byte) ∧ R = rm4 1 64 1 140 ∧ Q = MQ below (KQF vv D ad ty μ N g A) args s 1 140 A
theorem copy_tail {X : CX} {μ : Mem} {N : Nat} (hnL : xn X = 3) (C : Ok X "java/util/Arrays" cJ7_copyOf_9075b) (E : FenF X μ N (gcp μ)) (h1 : bcap μ < N) (h2 : N ≤ 140) (hf : ∀ k, k < bcap μ → fits .byte (.int (μ.1 33 0 k)) = true) : J X 0 0 μ 15 [(0, .ref (xa X 33 0)), (1, .int (nI N))] [.int (nI N)] := by
  obtain ⟨p, l, e, R, s, m, args, below, meth, c, D, ad, ty, A, Q, nL, vv⟩ := X
  obtain ⟨hx, hb, hml, hown, hts, hK, hD, hA, hlk, hZ⟩ := C
  obtain ⟨hr, hR, hQ⟩ := E
  have hnL : nL = 3 := hnL
  subst hR
  intro H locs ls hP hS hl
  rw [hQ]
  obtain ⟨q0, hq⟩ := cell_at (kk33 vv) (show 0 < 1 by decide)
  have n0 : ¬ nI N < 0 := nI_pos (by omega)
  have eN : (nI N).toNatClampNeg = N := nI_clamp (by omega)
  refine va_newa (atype := .byte) (ty := .byte) (N' := N) (a0 := (N, .inl (fun _ => 0))) hx hb (hts _ q237) rfl hK hP (hD μ) hS hA (fun cA => rfl) n0 eN (by show N * 1 ≤ 536870912; omega) (Nat.le_refl 1) (by show 0 + N ≤ 140; omega) dJ7_copyOf_9075b_15 (fun q cA H1 hK1 hP1 hD1 hS1 => ?_)
  have hc : cA = ty 1 := by
    have h3 := (hK1.2 (tys ty).length (cA, .byte) (List.getElem?_concat_length ..)).2
    have h4 := (hK1.2 1 (ty 1, .byte) rfl).2
    exact Option.some.inj (h3.symm.trans h4)
  subst hc
  have g0 : (wl vv ad ty μ ++ [(q, .inl (ty 1, N, .inl (fun _ => 0)))] : va_W)[q0]? = some (ad 33 0, .inl (ty 1, bcap μ, .inl (μ.1 33 0))) := (List.getElem?_append_left (List.getElem?_eq_some_iff.mp (wl_at (ad := ad) (ty := ty) (μ := μ) hq)).1).trans (arr_at (kk33 vv) hq)
  have g1 : (wl vv ad ty μ ++ [(q, .inl (ty 1, N, .inl (fun _ => 0)))] : va_W)[(wl vv ad ty μ).length]? = some (q, .inl (ty 1, N, .inl (fun _ => 0))) := List.getElem?_concat_length ..
  refine lv_astore_n hx hb dJ7_copyOf_9075b_17 rfl hl (by omega) rfl (fun ls2 hl2 => ?_)
  refine lv_aload_n hx hb dJ7_copyOf_9075b_18 rfl (lv_at hl2 1 rfl) ?_
  refine lv_iconst (v := 0) hx hb dJ7_copyOf_9075b_19 (by decide) ?_
  refine lv_aload_n hx hb dJ7_copyOf_9075b_20 rfl (lv_at hl2 0 rfl) ?_
  refine lv_iconst (v := 0) hx hb dJ7_copyOf_9075b_21 (by decide) ?_
  refine lv_aload_n hx hb dJ7_copyOf_9075b_22 rfl (lv_at hl2 1 rfl) ?_
  refine va_alen hx hb hK hP1 q0 1 g0 rfl rfl dJ7_copyOf_9075b_23 ?_
  refine lv_iload_n hx hb dJ7_copyOf_9075b_24 rfl (lv_at hl2 2 rfl) ?_
  refine va_mmin hx hb (hml.trans hl2.1.symm) hown (hts _ q1735) (hts _ q726) (hts _ q172) (hts _ q727) (Nat.le_refl 1) (Nat.le_of_ble_eq_true rfl) (Nat.le_refl 1) (by show 0 + N ≤ 140; omega) dJ7_copyOf_9075b_25 ?_
  rw [show (if nI N < Int32.ofNat (bcap μ) then nI N else Int32.ofNat (bcap μ)) = nI (bcap μ) from if_neg (nI_nlt (Nat.le_of_lt h1) (by omega))]
  have eB : (nI (bcap μ)).toNatClampNeg = bcap μ := nI_clamp (by omega)
  have e0 : (0 : Int32).toNatClampNeg = 0 := by decide
  refine va_copyi hx hb (hml.trans hl2.1.symm) hown (hts _ q1736) (hts _ q876) (hts _ q875) (hts _ q182) hK hP1 hD1 hS1 q0 (wl vv ad ty μ).length 1 1 g0 g1 rfl rfl rfl (by decide) (by decide) (nI_pos (by omega)) (by rw [e0, eB]; omega) (by rw [e0, eB]; omega) (fun i hi => by rw [e0, Nat.zero_add]; exact hf i (by rw [eB] at hi; exact hi)) (Nat.le_refl 1) (Nat.le_of_ble_eq_true rfl) dJ7_copyOf_9075b_28 (fun H2 locs2 hP2 hD2 hS2 => ?_)
  have eg : va_cpy (μ.1 33 0) (fun _ => (0 : Int32)) (0 : Int32).toNatClampNeg (0 : Int32).toNatClampNeg (nI (bcap μ)).toNatClampNeg = gcp μ := by
    funext k
    unfold va_cpy gcp
    rw [e0, eB, Nat.zero_add]
    by_cases hk : k < bcap μ
    · rw [if_pos ⟨Nat.zero_le k, hk⟩, if_pos hk, Nat.zero_add, Nat.sub_zero]
    · rw [if_neg (fun z => hk z.2), if_neg hk]
  have ew : (wl vv ad ty μ ++ [(q, .inl (ty 1, N, .inl (fun _ => 0)))] : va_W).set (wl vv ad ty μ).length (q, .inl (ty 1, N, .inl (gcp μ))) = wl vv ad ty μ ++ [(q, .inl (ty 1, N, .inl (gcp μ)))] := by
    rw [List.set_append_right _ _ (Nat.le_refl _), Nat.sub_self]
    rfl
  rw [eg, ew] at hP2 hD2
  refine lv_aload_n hx hb dJ7_copyOf_9075b_31 rfl (lv_at hl2 0 rfl) ?_
  exact W.widen (Nat.le_refl 1) (by show 0 + N ≤ 140; omega) (W.aret hx hb hr (Or.inr ⟨_, rfl⟩) (Or.inr ⟨_, rfl⟩) (fun t ht hW => ⟨q, rfl, by rw [ht]; exact hP2, hD2, hS2.F ht⟩) hS2.2.2 dJ7_copyOf_9075b_32)
theorem kJ7_copyOf_9075b (l : Launch) (N vv : Nat) (D : va_G) (ad : Nat → Nat → Nat) (ty : Nat → ClassId) (μ : Mem) (sz : Nat) (h1 : bcap μ < N) (h2 : N ≤ 140) (hf : ∀ k, k < bcap μ → fits .byte (.int (μ.1 33 0 k)) = true) : Met l yJ7_copyOf_9075b (wm yJ7_copyOf_9075b cJ7_copyOf_9075b 3 (some (.array .byte))) (rm4 1 64 1 140) (KP vv D ad ty μ sz [.ref (ad 33 0), .int (nI N)]) (KQF vv D ad ty μ N (gcp μ) (va_A (wl vv ad ty μ) sz)) 1 140 (va_A (wl vv ad ty μ) sz) := by
  have body : ∀ X : CX, xn X = 3 → Ok X "java/util/Arrays" cJ7_copyOf_9075b → FenF X μ N (gcp μ) → G X () 0 0 μ 0 [(0, .ref (xa X 33 0)), (1, .int (nI N))] [] (some ()) := by
    intro X hn C E
    refine s_iload_n C dJ7_copyOf_9075b_0 rfl 1 rfl ?_
    refine s_aload_n C dJ7_copyOf_9075b_1 rfl 0 rfl ?_
    refine b_alen C (by decide) dJ7_copyOf_9075b_2 ?_
    refine b_icmp_ne (tgt := 14) C dJ7_copyOf_9075b_3 (by decide) (fun _ => ?_) (fun h => absurd (fun e => absurd (nI_inj (a := N) (b := bcap μ) (by omega) (by omega) e) (by omega)) h)
    refine s_iload_n C dJ7_copyOf_9075b_14 rfl 1 rfl ?_
    exact g_j (r0 := ()) (copy_tail hn C E h1 h2 hf)
  refine Met.ofW (cc := cJ7_copyOf_9075b) (maxL := 3) (ret := some (.array .byte)) (by decide) rfl ?_
  intro p e s m args below meth c s₁ B hml hv
  obtain ⟨rfl, hsz, hP, hK, hD0, hZ⟩ := hv
  subst hsz
  have hts := atoms_spec (ws := wm yJ7_copyOf_9075b cJ7_copyOf_9075b 3 (some (.array .byte))) B.pre
  have h3 := body (p, l, e, (headSpec (wm yJ7_copyOf_9075b cJ7_copyOf_9075b 3 (some (.array .byte))) (rm4 1 64 1 140)).room, s, m, ([.ref (ad 33 0), .int (nI N)] : List Value).toArray, below, meth, c, D, ad, ty, va_A (wl vv ad ty μ) s.heap.size, MQ below (KQF vv D ad ty μ N (gcp μ) (va_A (wl vv ad ty μ) s.heap.size)) ([.ref (ad 33 0), .int (nI N)] : List Value).toArray s 1 140 (va_A (wl vv ad ty μ) s.heap.size), 3, vv) rfl
    ⟨B.exec, B.bytes, hml, findClass_of_methodNamed B.named, fun w hw => hts w (List.mem_cons_of_mem _ hw), hK, fun μ' => wl_fst μ' hD0.self, fun q h => Or.inr h, B.notSynchronized, hZ⟩ ⟨B.returns, rfl, rfl⟩ rfl s.heap [] _ hP va_S.rf (lv_entry [.ref (ad 33 0), .int (nI N)] (Nat.le_of_ble_eq_true rfl))
  rw [lg_entry_eq]
  exact h3
section GrowCall
variable {p : Program} {l : Launch} {e : Env} {R : Room} {s : State} {m : MethodId} {args : Array Value} {below : List Frame} {meth : Method} {c : Code} {H : Heap} {locs : List Loc} {cells slots : Nat} {Q : State → Prop}
variable {pc : Nat} {ls : Array Slot} {rest st0 : List Value} {a : Array Value} {A A1 : Nat → Prop} {mc ms : Nat} {D : va_G} {ad : Nat → Nat → Nat} {ty : Nat → ClassId} {μ : Mem} {vv n : Nat} {g : Nat → Int32}
theorem run_goF (hr : va_Run p l e R s m args below meth c H locs cells slots mc ms (F0 m pc ls st0) rest (KQF vv D ad ty μ n g A1 a) A1) (hS : va_S A s.heap H locs) (hA : ∀ q : Nat, A1 q → A q)
    (kk : ∀ (w : Nat) (H1 : Heap) (locs1 : List Loc), va_P D vwCl (wl vv ad ty μ ++ [(w, .inl (ty 1, n, .inl g))] : va_W) H1 → va_D A (wl vv ad ty μ ++ [(w, .inl (ty 1, n, .inl g))] : va_W) → va_S A s.heap H1 locs1 → W p l e R s m args below meth c H1 locs1 (cells + mc) (slots + ms) Q (F0 m (pc + 3) ls (.ref w :: rest))) : W p l e R s m args below meth c H locs cells slots Q (F0 m pc ls st0) := by
  intro T hT X
  obtain ⟨v', st₀, t, T', L, h0, X', hL, e1, e2, ⟨w, hv, hP1, hD1, hz, hk⟩, st⟩ := hr T hT X
  cases hv
  rw [h0] at hz hk
  obtain ⟨t2, a1, b1⟩ := kk w T'.heap (locs ++ L) (by rw [e1]; exact hP1) (hD1.weaken (fun k q h h2 => hA _ h2))
    ⟨Nat.le_trans hS.1 (by rw [e1]; exact hz), fun q h1 h2 => by rw [e1, hk q (Nat.lt_of_lt_of_le h1 hS.1) (fun z => h2 (hA q z))]; exact hS.2.1 q h1 h2, fun q hq => by
      rcases List.mem_append.mp hq with h | h
      · exact hS.2.2 q h
      · exact hA _ (hL q h)⟩ T' rfl X'
  exact ⟨t2, st t2 a1, b1⟩
end GrowCall
/-- Arrays.copyOf and the putfield behind it -/
theorem j_grow {X : CX} {own : String} {cc : ByteArray} {ca sl fr lo mcX msX : Nat} {μ : Mem} {pc ix ix2 N : Nat} {L : List (Nat × Value)} {st : List Value} (C : Ok X own cc) (E : Rm X fr lo mcX msX) (h1 : bcap μ < N) (h2 : N ≤ 140) (hf : ∀ k, k < bcap μ → fits .byte (.int (μ.1 33 0 k)) = true) (hl : Cond.methodLink own ix yJ7_copyOf_9075b ∈ tb) (F : FP (xv X) own ix2 32 1 0 (some (33, some (fun _ => 0))) (.array .byte)) (hst : (st.map fun v => v.category).sum ≤ 7) (hroom : 2 ≤ fr ∧ 86 ≤ lo ∧ ca + 1 ≤ mcX ∧ sl + 140 ≤ msX) (hd : decode cc pc = .ok (.invokestatic ix, 3)) (hd2 : decode cc (pc + 3) = .ok (.putfield ix2, 3))
    (kk : ∀ w : Nat, Ok (sx w X) own cc → J (sx w X) (ca + 1) (sl + 140) (gwN N μ) (pc + 6) L st) : J X ca sl μ pc L (.int (nI N) :: .ref (xa X 33 0) :: .ref (xa X 32 0) :: st) := by
  obtain ⟨p, l, e, R, s, m, args, below, meth, c, D, ad, ty, A, Q, nL, vv⟩ := X
  obtain ⟨hx, hb, hml, hown, hts, hK, hD, hA, hlk, hZ⟩ := C
  have hRX : R = rm4 fr lo mcX msX := E
  obtain ⟨m1, m2, m3⟩ := mmJ7_copyOf_9075b
  subst hRX
  intro H locs ls hP hS hl'
  have hmet := kJ7_copyOf_9075b l N vv D ad ty μ H.size h1 h2 hf
  refine run_goF (va_runS (As := [.ref (ad 33 0), .int (nI N)]) (rest := .ref (ad 32 0) :: st) (n := 2) ⟨hx, hb, hml, hown, hts⟩ hmet ⟨callB_of 2 hts (tb_goodIn (wm_in m2)) rfl rfl rfl (hts _ m1) (hts _ hl) m3 ⟨hroom.1, hroom.2.1⟩, hts _ q1726⟩ ⟨kp_blind, kp_pre hP hK (hD μ) hS hA hZ⟩ rfl rfl hl'.1 rfl (lv_room (by show 1 + (st.map fun v => v.category).sum ≤ 8; omega)) hd ⟨hroom.2.2.1, hroom.2.2.2⟩) hS (wl_A (hD μ) hS hA) (fun w H1 locs1 hP1 hD1 hS1 => ?_)
  obtain ⟨ci, sl0, C0, T, ty0, f1, f2, f3, f4, f5, f6, f7, f8, f9⟩ := F
  have f1 : (kdL vv)[32]? = some (1, .inl (ci, sl0)) := f1
  obtain ⟨rfl, rfl⟩ : ci = 1 ∧ sl0 = [some (33, some (fun _ => 0)), none, none, none] := by
    have := Option.some.inj ((kk32 vv).symm.trans f1)
    simp only [kd32, Prod.mk.injEq, Sum.inl.injEq] at this
    exact ⟨this.2.1.symm, this.2.2.symm⟩
  obtain ⟨q0, hq⟩ := cell_at f1 (show 0 < 1 by decide)
  have g0 : (wl vv ad ty μ ++ [(w, .inl (ty 1, N, .inl (gcp μ)))] : va_W)[q0]? = some (ad 32 0, .inr (1, ([some (33, some (fun _ => 0)), none, none, none] : List SP).mapIdx (fun k sp => sv ad 0 (μ.1 32 0) (μ.2.1 32 0) k sp))) := (List.getElem?_append_left (List.getElem?_eq_some_iff.mp (wl_at (ad := ad) (ty := ty) (μ := μ) hq)).1).trans (obj_at f1 hq)
  refine va_put hx hb hts f3 ty0 f6 f7 hown hK hP1 hD1 hS1 q0 g0 f2 0 (sl_lt f4) (hts _ f5) (fun _ h9 => h9) f8 f9 rfl rfl (by rw [List.length_mapIdx]; exact sl_lt f4) hd2 (fun H2 locs2 hP2 hD2 hS2 => ?_)
  obtain ⟨hP3, hD3⟩ := world_grow (D := D) (vv := vv) (ad := ad) (ty := ty) (μ := μ) (w := w) (N := N) (A := A) (H := H2) hq hP2 hD2
  exact kk w ⟨hx, hb, hml, hown, hts, hK, fun μ' => wl_fst μ' hD3, hA, hlk, hZ.am⟩ H2 locs2 ls hP3 hS2 hl'

/-! ensureCapacityInternal -/
theorem nI_le0 {a b : Nat} (ha : a < 1000) (hb : b < 1000) : nI a - nI b ≤ 0 ↔ a ≤ b := by
  rw [Int32.le_iff_toInt_le, Int32.toInt_sub, nI_toInt (by omega), nI_toInt (by omega)]
  rw [Int.bmod_eq_of_le (by omega) (by omega)]
  show (a : Int) - b ≤ 0 ↔ a ≤ b
  omega
def gw (m : Nat) (μ : Mem) : Mem := if bcap μ < m then gwN (max m (2 * bcap μ + 2)) μ else μ
theorem kJ5_ensureCapacityInternal_d00df (l : Launch) (m : Nat) : KonW 0 l yJ5_ensureCapacityInternal_d00df cJ5_ensureCapacityInternal_d00df 3 none 3 86 1 140 (fun ad => [.ref (ad 32 0), .int (nI m)]) rvV (fun μ => grd (μ.1 32 0 1 = 0 ∧ bcap μ ≤ 140 ∧ m ≤ 70 ∧ ∀ k, k < bcap μ → fits .byte (.int (μ.1 33 0 k)) = true) (some ((), gw m μ))) := by
  refine konW_of (by decide) (fun _ => Nat.le_of_ble_eq_true rfl) (fun X r μ hXl hXn V C Pv E hfr => ?_)
  have hN : ∀ i : Nat, i < 3 → i < xn X := fun i h => hXn.symm ▸ h
  have R0 := fenM_rm E
  obtain ⟨⟨p1, p2, p3, p4⟩, hr⟩ := grd_inv hfr
  cases hr
  refine j_g (r0 := ()) ?_
  show G X () 0 0 μ 0 [(0, .ref (xa X 32 0)), (1, .int (nI m))] [] (some ())
  refine s_aload_n C dJ5_ensureCapacityInternal_d00df_0 rfl 0 rfl ?_
  refine s_getF C (fgJ5_15_32 _) (by decide) dJ5_ensureCapacityInternal_d00df_1 ?_
  refine b_alen C (by decide) dJ5_ensureCapacityInternal_d00df_4 ?_
  refine s_aload_n C dJ5_ensureCapacityInternal_d00df_5 rfl 0 rfl ?_
  refine s_getI C (fgJ5_22_32 _) (by decide) dJ5_ensureCapacityInternal_d00df_6 ?_
  refine s_ishr C dJ5_ensureCapacityInternal_d00df_9 ?_
  refine g_st (st' := [.int (nI (bcap μ))]) (by rw [p1, shr_0]; rfl) ?_
  refine s_istore_n C dJ5_ensureCapacityInternal_d00df_10 rfl (hN 2 (by decide)) rfl ?_
  refine s_iload_n C dJ5_ensureCapacityInternal_d00df_11 rfl 2 rfl ?_
  refine s_iload_n C dJ5_ensureCapacityInternal_d00df_12 rfl 0 rfl ?_
  refine s_isub C dJ5_ensureCapacityInternal_d00df_13 ?_
  by_cases hm : bcap μ < m
  · refine b_if_le (tgt := 38) C dJ5_ensureCapacityInternal_d00df_14 (by decide) (fun h => absurd ((nI_le0 (by omega) (by omega)).mp h) (by omega)) (fun _ => ?_)
    refine s_aload_n C dJ5_ensureCapacityInternal_d00df_17 rfl 1 rfl ?_
    refine s_aload_n C dJ5_ensureCapacityInternal_d00df_18 rfl 1 rfl ?_
    refine s_getF C (fgJ5_15_32 _) (by decide) dJ5_ensureCapacityInternal_d00df_19 ?_
    refine s_aload_n C dJ5_ensureCapacityInternal_d00df_22 rfl 1 rfl ?_
    refine s_iload_n C dJ5_ensureCapacityInternal_d00df_23 rfl 2 rfl ?_
    refine b_call (r := nI (max m (2 * bcap μ + 2))) (μ' := μ) (f := grd (μ.1 32 0 1 = 0 ∧ bcap μ ≤ 140 ∧ bcap μ < m ∧ m ≤ 1000) (some (nI (max m (2 * bcap μ + 2)), μ))) (grd_ok ⟨p1, p2, hm, by omega⟩) (s_callW (n := 1) (As := [.int (nI m)]) (st := [.ref (xa X 33 0), .ref (xa X 32 0)]) C Pv R0 (kJ5_newCapacity_0f7a4 (xl X) m) (Nat.zero_le _) mmJ5_newCapacity_0f7a4 muJ5_newCapacity_0f7a4 q1712 rfl rfl rfl (Nat.le_of_ble_eq_true rfl) ⟨Nat.le_of_ble_eq_true rfl, Nat.le_of_ble_eq_true rfl, Nat.le_of_ble_eq_true rfl, Nat.le_of_ble_eq_true rfl⟩ dJ5_ensureCapacityInternal_d00df_24 (fun r2 μ2 hq => ?_))
    obtain ⟨e2, e3⟩ := grd_inv hq
    cases e2
    revert e3
    show G X () 0 0 μ 27 [(2, .int (nI (bcap μ))), (0, .ref (xa X 32 0)), (1, .int (nI m))] [.int (nI (max m (2 * bcap μ + 2))), .ref (xa X 33 0), .ref (xa X 32 0)] (some ())
    refine s_aload_n C dJ5_ensureCapacityInternal_d00df_27 rfl 1 rfl ?_
    refine s_getI C (fgJ5_22_32 _) (by decide) dJ5_ensureCapacityInternal_d00df_28 ?_
    refine s_ishl C dJ5_ensureCapacityInternal_d00df_31 ?_
    refine g_st (st' := [.int (nI (max m (2 * bcap μ + 2))), .ref (xa X 33 0), .ref (xa X 32 0)]) (by rw [p1, shl_0]) ?_
    refine g_j (r0 := ()) (j_grow C R0 (by omega) (by omega) p4 q1725 (fpJ5_value _) (Nat.zero_le _) ⟨Nat.le_of_ble_eq_true rfl, Nat.le_of_ble_eq_true rfl, Nat.le_of_ble_eq_true rfl, Nat.le_of_ble_eq_true rfl⟩ dJ5_ensureCapacityInternal_d00df_32 dJ5_ensureCapacityInternal_d00df_35 (fun w Cw => ?_))
    refine j_vretM Cw (fenM_sx E) ?_ (Nat.le_refl _) (Nat.le_refl _) dJ5_ensureCapacityInternal_d00df_38
    exact (if_pos hm).symm
  · refine b_if_le (tgt := 38) C dJ5_ensureCapacityInternal_d00df_14 (by decide) (fun _ => ?_) (fun h => absurd ((nI_le0 (by omega) (by omega)).mpr (by omega)) h)
    refine g_j (r0 := ()) (j_vretM C E ?_ (Nat.zero_le _) (Nat.zero_le _) dJ5_ensureCapacityInternal_d00df_38)
    exact (if_neg hm).symm
