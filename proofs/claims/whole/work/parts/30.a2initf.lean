/-! CONSTRUCTORS: small facts -/
theorem ft_rm {X : CX} {D0 : va_G} {b : Nat} {es' : List va_E} {fr lo mc ms : Nat} (E : FT0 D0 b es' X fr lo mc ms) : Rm X fr lo mc ms := by
  obtain ⟨p, l, e, R, s, m, args, below, meth, c, D, ad, ty, A, Q, nL, vv⟩ := X
  exact E.2.2.1
def pt (g : Nat → Nat) (k : Nat) : Nat → Option Nat := fun j => if j < k then some (g j) else none
theorem pt_0 {g : Nat → Nat} : pt g 0 = fun _ => none := funext fun j => if_neg (Nat.not_lt_zero j)
theorem pt_up {g : Nat → Nat} {i : Int32} {k v : Nat} (hi : i.toNatClampNeg = k) (hv : v = g k) : va_up (pt g k) i.toNatClampNeg (some v) = pt g (k + 1) := by
  subst hv
  rw [hi]
  funext j
  unfold va_up pt
  by_cases h : j = k
  · rw [if_pos h, if_pos (by omega), h]
  · rw [if_neg h]
    by_cases h2 : j < k
    · rw [if_pos h2, if_pos (by omega)]
    · rw [if_neg h2, if_neg (by omega)]
def pi0 (g : Nat → Int32) (k : Nat) : Nat → Int32 := fun j => if j < k then g j else 0
theorem pi_0 {g : Nat → Int32} : pi0 g 0 = fun _ => 0 := funext fun j => if_neg (Nat.not_lt_zero j)
theorem pi_up {g : Nat → Int32} {i v : Int32} {k : Nat} (hi : i.toNatClampNeg = k) (hv : v = g k) : upd (pi0 g k) i.toNatClampNeg v = pi0 g (k + 1) := by
  subst hv
  rw [hi]
  funext j
  unfold upd pi0
  by_cases h : j = k
  · subst h; simp
  · simp only [h, if_false]
    by_cases h2 : j < k
    · rw [if_pos h2, if_pos (by omega)]
    · rw [if_neg h2, if_neg (by omega)]
theorem hr_tape {X : CX} {es : List va_E} {b q ci : Nat} {fs : List Value} {Cn : String} {T : u_T} {N : Nat} (h : es[q]? = some (.inr (ci, fs))) (hc : vwCl[ci]? = some (Cn, T, N)) : ∀ (s : State) (H : Heap) (locs : List Loc) (D : va_G) (ad : Nat → Nat → Nat) (ty : Nat → ClassId) (A : Nat → Prop), xa X = ad → va_P D vwCl (tp b es) H → va_K D vwCl (tys ty) s → va_S A s.heap H locs → Cst ad A s s.heap → ∃ cellV : Cell, H[b + q]? = some cellV ∧ cellV.vm.isStatics = false ∧ s.vm.findClass Cn = some cellV.cls :=
  fun _ _ _ _ _ _ _ _ hP hK _ _ => va_recv hK hP hc (tp_get h)
theorem hr_str {X : CX} {es : List va_E} {b i : Nat} (hi : i < 70) : ∀ (s : State) (H : Heap) (locs : List Loc) (D : va_G) (ad : Nat → Nat → Nat) (ty : Nat → ClassId) (A : Nat → Prop), xa X = ad → va_P D vwCl (tp b es) H → va_K D vwCl (tys ty) s → va_S A s.heap H locs → Cst ad A s s.heap → ∃ cellV : Cell, H[xa X 51 i]? = some cellV ∧ cellV.vm.isStatics = false ∧ s.vm.findClass "java/lang/String" = some cellV.cls :=
  fun _ _ _ _ _ _ _ e _ _ hS hZ => by rw [e]; exact vk_recv hZ.2.2.2.2.2.2.2.2.2.1 hi hS
theorem hr_sym {X : CX} {es : List va_E} {b i : Nat} (hi : i < 74) : ∀ (s : State) (H : Heap) (locs : List Loc) (D : va_G) (ad : Nat → Nat → Nat) (ty : Nat → ClassId) (A : Nat → Prop), xa X = ad → va_P D vwCl (tp b es) H → va_K D vwCl (tys ty) s → va_S A s.heap H locs → Cst ad A s s.heap → ∃ cellV : Cell, H[xa X 50 i]? = some cellV ∧ cellV.vm.isStatics = false ∧ s.vm.findClass "PinEngines$Symbol" = some cellV.cls :=
  fun _ _ _ _ _ _ _ e _ _ hS hZ => by rw [e]; exact va_recvE hZ.1 hi hS
theorem nI_lt32 {k N : Nat} (h : k < N) (hN : N < 2 ^ 31) : ¬ nI N ≤ nI k := Int32.not_le.mpr (nI_lt h hN)
theorem set_same {es : List va_E} {j : Nat} {e : va_E} (h : es[j]? = some e) : es.set j e = es := by
  refine List.ext_getElem? fun i => ?_
  rw [List.getElem?_set]
  by_cases hi : j = i
  · subst hi; rw [if_pos rfl, if_pos (List.getElem?_eq_some_iff.mp h).1, h]
  · rw [if_neg hi]
theorem q302 : (Cond.methodLink "PinEngines$Setup" (9 : Nat) ({ cls := "PinEngines$Setup", name := "clear", desc := "()V" } : Jvm.MethodName)) ∈ tb := tb_of (lw_c1 (List.mem_of_getElem? (i := 148) (by decide +kernel))) rfl
theorem inX7_t : ∀ w ∈ u_ws RX7 TX7 4, w ∈ tb := u_in (fun k hk => match k, hk with
  | 0, _ => q483
  | 1, _ => q485
  | 2, _ => q487
  | 3, _ => q489
  | _ + 4, hk => absurd hk (by omega))
theorem inX2_t : ∀ w ∈ u_ws RX2 TX2 8, w ∈ tb := u_in (fun k hk => match k, hk with
  | 0, _ => q280
  | 1, _ => q282
  | 2, _ => q284
  | 3, _ => q286
  | 4, _ => q288
  | 5, _ => q290
  | 6, _ => q292
  | 7, _ => q294
  | _ + 8, hk => absurd hk (by omega))
theorem inX1_t : ∀ w ∈ u_ws RX1 TX1 14, w ∈ tb := u_in (fun k hk => match k, hk with
  | 0, _ => q542
  | 1, _ => q544
  | 2, _ => q546
  | 3, _ => q548
  | 4, _ => q550
  | 5, _ => q552
  | 6, _ => q554
  | 7, _ => q556
  | 8, _ => q558
  | 9, _ => q560
  | 10, _ => q562
  | 11, _ => q564
  | 12, _ => q566
  | 13, _ => q568
  | _ + 14, hk => absurd hk (by omega))
theorem inX6_t : ∀ w ∈ u_ws RX6 TX6 4, w ∈ tb := u_in (fun k hk => match k, hk with
  | 0, _ => q667
  | 1, _ => q669
  | 2, _ => q671
  | 3, _ => q673
  | _ + 4, hk => absurd hk (by omega))
theorem inX9_t : ∀ w ∈ u_ws RX9 TX9 7, w ∈ tb := u_in (fun k hk => match k, hk with
  | 0, _ => q642
  | 1, _ => q644
  | 2, _ => q646
  | 3, _ => q648
  | 4, _ => q650
  | 5, _ => q652
  | 6, _ => q654
  | _ + 7, hk => absurd hk (by omega))
theorem inX5_t : ∀ w ∈ u_ws RX5 TX5 6, w ∈ tb := u_in (fun k hk => match k, hk with
  | 0, _ => q444
  | 1, _ => q446
  | 2, _ => q448
  | 3, _ => q450
  | 4, _ => q452
  | 5, _ => q454
  | _ + 6, hk => absurd hk (by omega))
theorem inX8_t : ∀ w ∈ u_ws RX8 TX8 20, w ∈ tb := u_in (fun k hk => match k, hk with
  | 0, _ => q367
  | 1, _ => q369
  | 2, _ => q371
  | 3, _ => q373
  | 4, _ => q375
  | 5, _ => q377
  | 6, _ => q379
  | 7, _ => q381
  | 8, _ => q383
  | 9, _ => q385
  | 10, _ => q387
  | 11, _ => q389
  | 12, _ => q391
  | 13, _ => q393
  | 14, _ => q395
  | 15, _ => q397
  | 16, _ => q399
  | 17, _ => q401
  | 18, _ => q403
  | 19, _ => q405
  | _ + 20, hk => absurd hk (by omega))
theorem inJ4_t : ∀ w ∈ u_ws RJ4 TJ4 4, w ∈ tb := u_in (fun k hk => match k, hk with
  | 0, _ => q700
  | 1, _ => q702
  | 2, _ => q704
  | 3, _ => q706
  | _ + 4, hk => absurd hk (by omega))
theorem inX3_t : ∀ w ∈ u_ws RX3 TX3 14, w ∈ tb := u_in (fun k hk => match k, hk with
  | 0, _ => q599
  | 1, _ => q601
  | 2, _ => q603
  | 3, _ => q605
  | 4, _ => q607
  | 5, _ => q609
  | 6, _ => q611
  | 7, _ => q613
  | 8, _ => q615
  | 9, _ => q617
  | 10, _ => q619
  | 11, _ => q621
  | 12, _ => q623
  | 13, _ => q625
  | _ + 14, hk => absurd hk (by omega))
theorem inX4_t : ∀ w ∈ u_ws RX4 TX4 5, w ∈ tb := u_in (fun k hk => match k, hk with
  | 0, _ => q421
  | 1, _ => q423
  | 2, _ => q425
  | 3, _ => q427
  | 4, _ => q429
  | _ + 5, hk => absurd hk (by omega))
theorem inX11_t : ∀ w ∈ u_ws RX11 TX11 9, w ∈ tb := u_in (fun k hk => match k, hk with
  | 0, _ => q218
  | 1, _ => q220
  | 2, _ => q222
  | 3, _ => q224
  | 4, _ => q226
  | 5, _ => q228
  | 6, _ => q230
  | 7, _ => q232
  | 8, _ => q234
  | _ + 9, hk => absurd hk (by omega))
theorem inX13_t : ∀ w ∈ u_ws RX13 TX13 47, w ∈ tb := u_in (fun k hk => match k, hk with
  | 0, _ => q2133
  | 1, _ => q2135
  | 2, _ => q2137
  | 3, _ => q2139
  | 4, _ => q2141
  | 5, _ => q2143
  | 6, _ => q2145
  | 7, _ => q2147
  | 8, _ => q2149
  | 9, _ => q2151
  | 10, _ => q2153
  | 11, _ => q2155
  | 12, _ => q2157
  | 13, _ => q2159
  | 14, _ => q2161
  | 15, _ => q2163
  | 16, _ => q2165
  | 17, _ => q2167
  | 18, _ => q2169
  | 19, _ => q2171
  | 20, _ => q2173
  | 21, _ => q2175
  | 22, _ => q2177
  | 23, _ => q2179
  | 24, _ => q2181
  | 25, _ => q2183
  | 26, _ => q2185
  | 27, _ => q2187
  | 28, _ => q2189
  | 29, _ => q2191
  | 30, _ => q2193
  | 31, _ => q2195
  | 32, _ => q2197
  | 33, _ => q2199
  | 34, _ => q2201
  | 35, _ => q2203
  | 36, _ => q2205
  | 37, _ => q2207
  | 38, _ => q2209
  | 39, _ => q2211
  | 40, _ => q2213
  | 41, _ => q2215
  | 42, _ => q2217
  | 43, _ => q2219
  | 44, _ => q2221
  | 45, _ => q2223
  | 46, _ => q2225
  | _ + 47, hk => absurd hk (by omega))
theorem fqX7_9 : FQ RX7 9 8 0 (.int) false := ⟨RX7, TX7, 4, tyX7, rfl, inX7_t, by decide, q476, tyX7_ok, nmX7, rfl, by decide +kernel, fun _ => rfl⟩
theorem fqX7_15 : FQ RX7 15 8 1 (.int) false := ⟨RX7, TX7, 4, tyX7, rfl, inX7_t, by decide, q480, tyX7_ok, nmX7, rfl, by decide +kernel, fun _ => rfl⟩
theorem fqX7_18 : FQ RX7 18 8 2 (.int) false := ⟨RX7, TX7, 4, tyX7, rfl, inX7_t, by decide, q481, tyX7_ok, nmX7, rfl, by decide +kernel, fun _ => rfl⟩
theorem fqX7_21 : FQ RX7 21 8 3 (.array .int) true := ⟨RX7, TX7, 4, tyX7, rfl, inX7_t, by decide, q482, tyX7_ok, nmX7, rfl, by decide +kernel, fun _ => rfl⟩
theorem fqX2_15 : FQ RX2 15 3 0 (.object "PinEngines$Symbol") false := ⟨RX2, TX2, 8, tyX2, rfl, inX2_t, by decide, q256, tyX2_ok, nmX2, rfl, by decide +kernel, fun _ => rfl⟩
theorem fqX2_20 : FQ RX2 20 3 1 (.int) false := ⟨RX2, TX2, 8, tyX2, rfl, inX2_t, by decide, q259, tyX2_ok, nmX2, rfl, by decide +kernel, fun _ => rfl⟩
theorem fqX2_24 : FQ RX2 24 3 2 (.object "PinEngines$Symbol") false := ⟨RX2, TX2, 8, tyX2, rfl, inX2_t, by decide, q262, tyX2_ok, nmX2, rfl, by decide +kernel, fun _ => rfl⟩
theorem fqX2_27 : FQ RX2 27 3 3 (.object "PinEngines$Symbol") false := ⟨RX2, TX2, 8, tyX2, rfl, inX2_t, by decide, q265, tyX2_ok, nmX2, rfl, by decide +kernel, fun _ => rfl⟩
theorem fqX2_30 : FQ RX2 30 3 4 (.object "PinEngines$Symbol") false := ⟨RX2, TX2, 8, tyX2, rfl, inX2_t, by decide, q268, tyX2_ok, nmX2, rfl, by decide +kernel, fun _ => rfl⟩
theorem fqX2_33 : FQ RX2 33 3 5 (.int) false := ⟨RX2, TX2, 8, tyX2, rfl, inX2_t, by decide, q271, tyX2_ok, nmX2, rfl, by decide +kernel, fun _ => rfl⟩
theorem fqX2_36 : FQ RX2 36 3 6 (.int) false := ⟨RX2, TX2, 8, tyX2, rfl, inX2_t, by decide, q274, tyX2_ok, nmX2, rfl, by decide +kernel, fun _ => rfl⟩
theorem fqX2_39 : FQ RX2 39 3 7 (.int) false := ⟨RX2, TX2, 8, tyX2, rfl, inX2_t, by decide, q277, tyX2_ok, nmX2, rfl, by decide +kernel, fun _ => rfl⟩
theorem fqX1_12 : FQ RX1 12 2 11 (.object "PinEngines$Queue") true := ⟨RX1, TX1, 14, tyX1, rfl, inX1_t, by decide, q531, tyX1_ok, nmX1, rfl, by decide +kernel, fun _ => rfl⟩
theorem fqX1_18 : FQ RX1 18 2 12 (.object "PinEngines$Queue") true := ⟨RX1, TX1, 14, tyX1, rfl, inX1_t, by decide, q535, tyX1_ok, nmX1, rfl, by decide +kernel, fun _ => rfl⟩
theorem fqX1_21 : FQ RX1 21 2 13 (.array .int) true := ⟨RX1, TX1, 14, tyX1, rfl, inX1_t, by decide, q539, tyX1_ok, nmX1, rfl, by decide +kernel, fun _ => rfl⟩
theorem fqX6_9 : FQ RX6 9 7 2 (.array .int) true := ⟨RX6, TX6, 4, tyX6, rfl, inX6_t, by decide, q665, tyX6_ok, nmX6, rfl, by decide +kernel, fun _ => rfl⟩
theorem fqX6_15 : FQ RX6 15 7 3 (.array .int) true := ⟨RX6, TX6, 4, tyX6, rfl, inX6_t, by decide, q666, tyX6_ok, nmX6, rfl, by decide +kernel, fun _ => rfl⟩
theorem fqX6_18 : FQ RX6 18 7 0 (.object "PinEngines$Tokens") true := ⟨RX6, TX6, 4, tyX6, rfl, inX6_t, by decide, q663, tyX6_ok, nmX6, rfl, by decide +kernel, fun _ => rfl⟩
theorem fqX6_22 : FQ RX6 22 7 1 (.object "PinEngines$Machine") true := ⟨RX6, TX6, 4, tyX6, rfl, inX6_t, by decide, q664, tyX6_ok, nmX6, rfl, by decide +kernel, fun _ => rfl⟩
theorem fqX9_9 : FQ RX9 9 10 0 (.object "PinEngines$Program") false := ⟨RX9, TX9, 7, tyX9, rfl, inX9_t, by decide, q634, tyX9_ok, nmX9, rfl, by decide +kernel, fun _ => rfl⟩
theorem fqX9_15 : FQ RX9 15 10 1 (.object "PinEngines$Machine") false := ⟨RX9, TX9, 7, tyX9, rfl, inX9_t, by decide, q636, tyX9_ok, nmX9, rfl, by decide +kernel, fun _ => rfl⟩
theorem fqX5_9 : FQ RX5 9 6 2 (.boolean) false := ⟨RX5, TX5, 6, tyX5, rfl, inX5_t, by decide, q440, tyX5_ok, nmX5, rfl, by decide +kernel, fun _ => rfl⟩
theorem fqX5_15 : FQ RX5 15 6 3 (.int) false := ⟨RX5, TX5, 6, tyX5, rfl, inX5_t, by decide, q441, tyX5_ok, nmX5, rfl, by decide +kernel, fun _ => rfl⟩
theorem fqX5_19 : FQ RX5 19 6 4 (.array .int) true := ⟨RX5, TX5, 6, tyX5, rfl, inX5_t, by decide, q442, tyX5_ok, nmX5, rfl, by decide +kernel, fun _ => rfl⟩
theorem fqX5_23 : FQ RX5 23 6 5 (.array .int) true := ⟨RX5, TX5, 6, tyX5, rfl, inX5_t, by decide, q443, tyX5_ok, nmX5, rfl, by decide +kernel, fun _ => rfl⟩
theorem fqX5_26 : FQ RX5 26 6 0 (.object "PinEngines$Tokens") true := ⟨RX5, TX5, 6, tyX5, rfl, inX5_t, by decide, q438, tyX5_ok, nmX5, rfl, by decide +kernel, fun _ => rfl⟩
theorem fqX5_30 : FQ RX5 30 6 1 (.object "PinEngines$Program") false := ⟨RX5, TX5, 6, tyX5, rfl, inX5_t, by decide, q439, tyX5_ok, nmX5, rfl, by decide +kernel, fun _ => rfl⟩
theorem fqX8_14 : FQ RX8 14 9 0 (.boolean) false := ⟨RX8, TX8, 20, tyX8, rfl, inX8_t, by decide, q306, tyX8_ok, nmX8, rfl, by decide +kernel, fun _ => rfl⟩
theorem fqX8_18 : FQ RX8 18 9 1 (.int) false := ⟨RX8, TX8, 20, tyX8, rfl, inX8_t, by decide, q310, tyX8_ok, nmX8, rfl, by decide +kernel, fun _ => rfl⟩
theorem fqX8_22 : FQ RX8 22 9 2 (.int) false := ⟨RX8, TX8, 20, tyX8, rfl, inX8_t, by decide, q313, tyX8_ok, nmX8, rfl, by decide +kernel, fun _ => rfl⟩
theorem fqX8_25 : FQ RX8 25 9 3 (.int) false := ⟨RX8, TX8, 20, tyX8, rfl, inX8_t, by decide, q316, tyX8_ok, nmX8, rfl, by decide +kernel, fun _ => rfl⟩
theorem fqX8_28 : FQ RX8 28 9 4 (.int) false := ⟨RX8, TX8, 20, tyX8, rfl, inX8_t, by decide, q319, tyX8_ok, nmX8, rfl, by decide +kernel, fun _ => rfl⟩
theorem fqX8_31 : FQ RX8 31 9 5 (.int) false := ⟨RX8, TX8, 20, tyX8, rfl, inX8_t, by decide, q322, tyX8_ok, nmX8, rfl, by decide +kernel, fun _ => rfl⟩
theorem fqX8_34 : FQ RX8 34 9 6 (.int) false := ⟨RX8, TX8, 20, tyX8, rfl, inX8_t, by decide, q325, tyX8_ok, nmX8, rfl, by decide +kernel, fun _ => rfl⟩
theorem fqX8_37 : FQ RX8 37 9 7 (.int) false := ⟨RX8, TX8, 20, tyX8, rfl, inX8_t, by decide, q328, tyX8_ok, nmX8, rfl, by decide +kernel, fun _ => rfl⟩
theorem fqX8_40 : FQ RX8 40 9 8 (.int) false := ⟨RX8, TX8, 20, tyX8, rfl, inX8_t, by decide, q331, tyX8_ok, nmX8, rfl, by decide +kernel, fun _ => rfl⟩
theorem fqX8_43 : FQ RX8 43 9 9 (.int) false := ⟨RX8, TX8, 20, tyX8, rfl, inX8_t, by decide, q334, tyX8_ok, nmX8, rfl, by decide +kernel, fun _ => rfl⟩
theorem fqX8_46 : FQ RX8 46 9 10 (.int) false := ⟨RX8, TX8, 20, tyX8, rfl, inX8_t, by decide, q337, tyX8_ok, nmX8, rfl, by decide +kernel, fun _ => rfl⟩
theorem fqX8_49 : FQ RX8 49 9 11 (.int) false := ⟨RX8, TX8, 20, tyX8, rfl, inX8_t, by decide, q340, tyX8_ok, nmX8, rfl, by decide +kernel, fun _ => rfl⟩
theorem fqX8_52 : FQ RX8 52 9 12 (.int) false := ⟨RX8, TX8, 20, tyX8, rfl, inX8_t, by decide, q343, tyX8_ok, nmX8, rfl, by decide +kernel, fun _ => rfl⟩
theorem fqX8_55 : FQ RX8 55 9 13 (.boolean) false := ⟨RX8, TX8, 20, tyX8, rfl, inX8_t, by decide, q346, tyX8_ok, nmX8, rfl, by decide +kernel, fun _ => rfl⟩
theorem fqX8_58 : FQ RX8 58 9 14 (.boolean) false := ⟨RX8, TX8, 20, tyX8, rfl, inX8_t, by decide, q349, tyX8_ok, nmX8, rfl, by decide +kernel, fun _ => rfl⟩
theorem fqX8_61 : FQ RX8 61 9 15 (.boolean) false := ⟨RX8, TX8, 20, tyX8, rfl, inX8_t, by decide, q352, tyX8_ok, nmX8, rfl, by decide +kernel, fun _ => rfl⟩
theorem fqX8_64 : FQ RX8 64 9 16 (.boolean) false := ⟨RX8, TX8, 20, tyX8, rfl, inX8_t, by decide, q355, tyX8_ok, nmX8, rfl, by decide +kernel, fun _ => rfl⟩
theorem fqX8_67 : FQ RX8 67 9 17 (.int) false := ⟨RX8, TX8, 20, tyX8, rfl, inX8_t, by decide, q358, tyX8_ok, nmX8, rfl, by decide +kernel, fun _ => rfl⟩
theorem fqX8_70 : FQ RX8 70 9 18 (.int) false := ⟨RX8, TX8, 20, tyX8, rfl, inX8_t, by decide, q361, tyX8_ok, nmX8, rfl, by decide +kernel, fun _ => rfl⟩
theorem fqX8_73 : FQ RX8 73 9 19 (.int) false := ⟨RX8, TX8, 20, tyX8, rfl, inX8_t, by decide, q364, tyX8_ok, nmX8, rfl, by decide +kernel, fun _ => rfl⟩
theorem fqJ5_15 : FQ RJ5 15 1 0 (.array .byte) false := ⟨RJ4, TJ4, 4, tyJ4, rfl, inJ4_t, by decide, q695, tyJ4_ok, nmJ4, rfl, by decide +kernel, fun _ => rfl⟩
theorem fqJ5_22 : FQ RJ5 22 1 1 (.byte) false := ⟨RJ4, TJ4, 4, tyJ4, rfl, inJ4_t, by decide, q696, tyJ4_ok, nmJ4, rfl, by decide +kernel, fun _ => rfl⟩
theorem fqX3_9 : FQ RX3 9 4 6 (.array .int) true := ⟨RX3, TX3, 14, tyX3, rfl, inX3_t, by decide, q584, tyX3_ok, nmX3, rfl, by decide +kernel, fun _ => rfl⟩
theorem fqX3_17 : FQ RX3 17 4 7 (.array (.object "PinEngines$Engine")) true := ⟨RX3, TX3, 14, tyX3, rfl, inX3_t, by decide, q587, tyX3_ok, nmX3, rfl, by decide +kernel, fun _ => rfl⟩
theorem fqX3_21 : FQ RX3 21 4 9 (.array .int) true := ⟨RX3, TX3, 14, tyX3, rfl, inX3_t, by decide, q593, tyX3_ok, nmX3, rfl, by decide +kernel, fun _ => rfl⟩
theorem fqX3_24 : FQ RX3 24 4 11 (.array .int) true := ⟨RX3, TX3, 14, tyX3, rfl, inX3_t, by decide, q595, tyX3_ok, nmX3, rfl, by decide +kernel, fun _ => rfl⟩
theorem fqX3_27 : FQ RX3 27 4 12 (.array .int) true := ⟨RX3, TX3, 14, tyX3, rfl, inX3_t, by decide, q596, tyX3_ok, nmX3, rfl, by decide +kernel, fun _ => rfl⟩
theorem fqX3_30 : FQ RX3 30 4 13 (.array .int) true := ⟨RX3, TX3, 14, tyX3, rfl, inX3_t, by decide, q598, tyX3_ok, nmX3, rfl, by decide +kernel, fun _ => rfl⟩
theorem fqX4_9 : FQ RX4 9 5 0 (.int) false := ⟨RX4, TX4, 5, tyX4, rfl, inX4_t, by decide, q408, tyX4_ok, nmX4, rfl, by decide +kernel, fun _ => rfl⟩
theorem fqX4_15 : FQ RX4 15 5 1 (.int) false := ⟨RX4, TX4, 5, tyX4, rfl, inX4_t, by decide, q411, tyX4_ok, nmX4, rfl, by decide +kernel, fun _ => rfl⟩
theorem fqX4_20 : FQ RX4 20 5 2 (.array (.object "PinEngines$Setup")) true := ⟨RX4, TX4, 5, tyX4, rfl, inX4_t, by decide, q414, tyX4_ok, nmX4, rfl, by decide +kernel, fun _ => rfl⟩
theorem fqX4_26 : FQ RX4 26 5 3 (.array (.object "PinEngines$Instruction")) true := ⟨RX4, TX4, 5, tyX4, rfl, inX4_t, by decide, q419, tyX4_ok, nmX4, rfl, by decide +kernel, fun _ => rfl⟩
theorem fqX4_31 : FQ RX4 31 5 4 (.object "PinEngines$Instruction") true := ⟨RX4, TX4, 5, tyX4, rfl, inX4_t, by decide, q420, tyX4_ok, nmX4, rfl, by decide +kernel, fun _ => rfl⟩
theorem fqX11_11 : FQ RX11 11 12 1 (.array (.object "PinEngines$Symbol")) true := ⟨RX11, TX11, 9, tyX11, rfl, inX11_t, by decide, q206, tyX11_ok, nmX11, rfl, by decide +kernel, fun _ => rfl⟩
theorem fqX11_17 : FQ RX11 17 12 2 (.array .int) true := ⟨RX11, TX11, 9, tyX11, rfl, inX11_t, by decide, q207, tyX11_ok, nmX11, rfl, by decide +kernel, fun _ => rfl⟩
theorem fqX11_21 : FQ RX11 21 12 3 (.array .int) true := ⟨RX11, TX11, 9, tyX11, rfl, inX11_t, by decide, q208, tyX11_ok, nmX11, rfl, by decide +kernel, fun _ => rfl⟩
theorem fqX11_24 : FQ RX11 24 12 4 (.array .int) true := ⟨RX11, TX11, 9, tyX11, rfl, inX11_t, by decide, q209, tyX11_ok, nmX11, rfl, by decide +kernel, fun _ => rfl⟩
theorem fqX11_27 : FQ RX11 27 12 5 (.int) false := ⟨RX11, TX11, 9, tyX11, rfl, inX11_t, by decide, q210, tyX11_ok, nmX11, rfl, by decide +kernel, fun _ => rfl⟩
theorem fqX11_31 : FQ RX11 31 12 6 (.int) false := ⟨RX11, TX11, 9, tyX11, rfl, inX11_t, by decide, q211, tyX11_ok, nmX11, rfl, by decide +kernel, fun _ => rfl⟩
theorem fqX11_34 : FQ RX11 34 12 7 (.int) false := ⟨RX11, TX11, 9, tyX11, rfl, inX11_t, by decide, q213, tyX11_ok, nmX11, rfl, by decide +kernel, fun _ => rfl⟩
theorem fqX11_37 : FQ RX11 37 12 8 (.int) false := ⟨RX11, TX11, 9, tyX11, rfl, inX11_t, by decide, q216, tyX11_ok, nmX11, rfl, by decide +kernel, fun _ => rfl⟩
theorem fqX11_40 : FQ RX11 40 12 0 (.array .byte) true := ⟨RX11, TX11, 9, tyX11, rfl, inX11_t, by decide, q205, tyX11_ok, nmX11, rfl, by decide +kernel, fun _ => rfl⟩
theorem fqX13_9 : FQ RX13 9 14 0 (.array .int) true := ⟨RX13, TX13, 47, tyX13, rfl, inX13_t, by decide, q2086, tyX13_ok, nmX13, rfl, by decide +kernel, fun _ => rfl⟩
theorem fqX13_13 : FQ RX13 13 14 1 (.array .int) true := ⟨RX13, TX13, 47, tyX13, rfl, inX13_t, by decide, q2087, tyX13_ok, nmX13, rfl, by decide +kernel, fun _ => rfl⟩
theorem fqX13_16 : FQ RX13 16 14 2 (.array .int) true := ⟨RX13, TX13, 47, tyX13, rfl, inX13_t, by decide, q2088, tyX13_ok, nmX13, rfl, by decide +kernel, fun _ => rfl⟩
theorem fqX13_19 : FQ RX13 19 14 3 (.array .int) true := ⟨RX13, TX13, 47, tyX13, rfl, inX13_t, by decide, q2089, tyX13_ok, nmX13, rfl, by decide +kernel, fun _ => rfl⟩
theorem fqX13_22 : FQ RX13 22 14 4 (.array .int) true := ⟨RX13, TX13, 47, tyX13, rfl, inX13_t, by decide, q2090, tyX13_ok, nmX13, rfl, by decide +kernel, fun _ => rfl⟩
theorem fqX13_25 : FQ RX13 25 14 8 (.array .int) true := ⟨RX13, TX13, 47, tyX13, rfl, inX13_t, by decide, q2094, tyX13_ok, nmX13, rfl, by decide +kernel, fun _ => rfl⟩
theorem fqX13_28 : FQ RX13 28 14 9 (.array .int) true := ⟨RX13, TX13, 47, tyX13, rfl, inX13_t, by decide, q2095, tyX13_ok, nmX13, rfl, by decide +kernel, fun _ => rfl⟩
theorem fqX13_31 : FQ RX13 31 14 10 (.array .boolean) true := ⟨RX13, TX13, 47, tyX13, rfl, inX13_t, by decide, q2096, tyX13_ok, nmX13, rfl, by decide +kernel, fun _ => rfl⟩
theorem fqX13_35 : FQ RX13 35 14 11 (.array .int) true := ⟨RX13, TX13, 47, tyX13, rfl, inX13_t, by decide, q2097, tyX13_ok, nmX13, rfl, by decide +kernel, fun _ => rfl⟩
theorem fqX13_38 : FQ RX13 38 14 12 (.array .int) true := ⟨RX13, TX13, 47, tyX13, rfl, inX13_t, by decide, q2098, tyX13_ok, nmX13, rfl, by decide +kernel, fun _ => rfl⟩
theorem fqX13_41 : FQ RX13 41 14 13 (.array .int) true := ⟨RX13, TX13, 47, tyX13, rfl, inX13_t, by decide, q2099, tyX13_ok, nmX13, rfl, by decide +kernel, fun _ => rfl⟩
theorem fqX13_44 : FQ RX13 44 14 14 (.array .int) true := ⟨RX13, TX13, 47, tyX13, rfl, inX13_t, by decide, q2100, tyX13_ok, nmX13, rfl, by decide +kernel, fun _ => rfl⟩
theorem fqX13_47 : FQ RX13 47 14 15 (.array .int) true := ⟨RX13, TX13, 47, tyX13, rfl, inX13_t, by decide, q2101, tyX13_ok, nmX13, rfl, by decide +kernel, fun _ => rfl⟩
theorem fqX13_50 : FQ RX13 50 14 20 (.array .int) true := ⟨RX13, TX13, 47, tyX13, rfl, inX13_t, by decide, q2106, tyX13_ok, nmX13, rfl, by decide +kernel, fun _ => rfl⟩
theorem fqX13_53 : FQ RX13 53 14 28 (.int) false := ⟨RX13, TX13, 47, tyX13, rfl, inX13_t, by decide, q2114, tyX13_ok, nmX13, rfl, by decide +kernel, fun _ => rfl⟩
theorem fqX13_85 : FQ RX13 85 14 30 (.array (.object "java/lang/String")) true := ⟨RX13, TX13, 47, tyX13, rfl, inX13_t, by decide, q2116, tyX13_ok, nmX13, rfl, by decide +kernel, fun _ => rfl⟩
theorem fqX13_105 : FQ RX13 105 14 31 (.array (.object "java/lang/String")) true := ⟨RX13, TX13, 47, tyX13, rfl, inX13_t, by decide, q2117, tyX13_ok, nmX13, rfl, by decide +kernel, fun _ => rfl⟩
theorem fqX13_126 : FQ RX13 126 14 32 (.array (.object "java/lang/String")) true := ⟨RX13, TX13, 47, tyX13, rfl, inX13_t, by decide, q2118, tyX13_ok, nmX13, rfl, by decide +kernel, fun _ => rfl⟩
theorem fqX13_195 : FQ RX13 195 14 33 (.array (.object "java/lang/String")) true := ⟨RX13, TX13, 47, tyX13, rfl, inX13_t, by decide, q2119, tyX13_ok, nmX13, rfl, by decide +kernel, fun _ => rfl⟩
theorem fqX13_198 : FQ RX13 198 14 34 (.array .int) true := ⟨RX13, TX13, 47, tyX13, rfl, inX13_t, by decide, q2120, tyX13_ok, nmX13, rfl, by decide +kernel, fun _ => rfl⟩
theorem fqX13_201 : FQ RX13 201 14 35 (.array .int) true := ⟨RX13, TX13, 47, tyX13, rfl, inX13_t, by decide, q2121, tyX13_ok, nmX13, rfl, by decide +kernel, fun _ => rfl⟩
theorem fqX13_204 : FQ RX13 204 14 36 (.array .int) true := ⟨RX13, TX13, 47, tyX13, rfl, inX13_t, by decide, q2122, tyX13_ok, nmX13, rfl, by decide +kernel, fun _ => rfl⟩
theorem fqX13_207 : FQ RX13 207 14 37 (.array .int) true := ⟨RX13, TX13, 47, tyX13, rfl, inX13_t, by decide, q2123, tyX13_ok, nmX13, rfl, by decide +kernel, fun _ => rfl⟩
theorem fqX13_210 : FQ RX13 210 14 38 (.array .int) true := ⟨RX13, TX13, 47, tyX13, rfl, inX13_t, by decide, q2124, tyX13_ok, nmX13, rfl, by decide +kernel, fun _ => rfl⟩
theorem fqX13_213 : FQ RX13 213 14 40 (.array .int) true := ⟨RX13, TX13, 47, tyX13, rfl, inX13_t, by decide, q2126, tyX13_ok, nmX13, rfl, by decide +kernel, fun _ => rfl⟩
theorem fqX13_216 : FQ RX13 216 14 42 (.array (.object "java/lang/String")) true := ⟨RX13, TX13, 47, tyX13, rfl, inX13_t, by decide, q2128, tyX13_ok, nmX13, rfl, by decide +kernel, fun _ => rfl⟩
theorem fqX13_219 : FQ RX13 219 14 43 (.array .int) true := ⟨RX13, TX13, 47, tyX13, rfl, inX13_t, by decide, q2129, tyX13_ok, nmX13, rfl, by decide +kernel, fun _ => rfl⟩
theorem fqX13_222 : FQ RX13 222 14 44 (.array .int) true := ⟨RX13, TX13, 47, tyX13, rfl, inX13_t, by decide, q2130, tyX13_ok, nmX13, rfl, by decide +kernel, fun _ => rfl⟩
theorem fqX13_225 : FQ RX13 225 14 45 (.array .int) true := ⟨RX13, TX13, 47, tyX13, rfl, inX13_t, by decide, q2131, tyX13_ok, nmX13, rfl, by decide +kernel, fun _ => rfl⟩
theorem nqX1_9 : NQ RX1 9 8 4 [.int 0, .int 0, .int 0, .null] := ⟨RX7, TX7, tyX7, rfl, inX7_t, tyX7_ok, q470, q471, q165, fun j hj => match j, hj with
  | 0, _ => rfl
  | 1, _ => rfl
  | 2, _ => rfl
  | 3, _ => rfl
  | _ + 4, hj => absurd hj (by omega)⟩
theorem nqX3_15 : NQ RX3 15 2 14 [.int 0, .int 0, .int 0, .int 0, .int 0, .int 0, .int 0, .int 0, .int 0, .int 0, .int 0, .null, .null, .null] := ⟨RX1, TX1, tyX1, rfl, inX1_t, tyX1_ok, q463, q465, q164, fun j hj => match j, hj with
  | 0, _ => rfl
  | 1, _ => rfl
  | 2, _ => rfl
  | 3, _ => rfl
  | 4, _ => rfl
  | 5, _ => rfl
  | 6, _ => rfl
  | 7, _ => rfl
  | 8, _ => rfl
  | 9, _ => rfl
  | 10, _ => rfl
  | 11, _ => rfl
  | 12, _ => rfl
  | 13, _ => rfl
  | _ + 14, hj => absurd hj (by omega)⟩
theorem nqX4_24 : NQ RX4 24 3 8 [.null, .int 0, .null, .null, .null, .int 0, .int 0, .int 0] := ⟨RX2, TX2, tyX2, rfl, inX2_t, tyX2_ok, q247, q249, q160, fun j hj => match j, hj with
  | 0, _ => rfl
  | 1, _ => rfl
  | 2, _ => rfl
  | 3, _ => rfl
  | 4, _ => rfl
  | 5, _ => rfl
  | 6, _ => rfl
  | 7, _ => rfl
  | _ + 8, hj => absurd hj (by omega)⟩
theorem nqX4_18 : NQ RX4 18 9 20 [.int 0, .int 0, .int 0, .int 0, .int 0, .int 0, .int 0, .int 0, .int 0, .int 0, .int 0, .int 0, .int 0, .int 0, .int 0, .int 0, .int 0, .int 0, .int 0, .int 0] := ⟨RX8, TX8, tyX8, rfl, inX8_t, tyX8_ok, q245, q297, q161, fun j hj => match j, hj with
  | 0, _ => rfl
  | 1, _ => rfl
  | 2, _ => rfl
  | 3, _ => rfl
  | 4, _ => rfl
  | 5, _ => rfl
  | 6, _ => rfl
  | 7, _ => rfl
  | 8, _ => rfl
  | 9, _ => rfl
  | 10, _ => rfl
  | 11, _ => rfl
  | 12, _ => rfl
  | 13, _ => rfl
  | 14, _ => rfl
  | 15, _ => rfl
  | 16, _ => rfl
  | 17, _ => rfl
  | 18, _ => rfl
  | 19, _ => rfl
  | _ + 20, hj => absurd hj (by omega)⟩
theorem mmX7_init : MM yX7_init cX7_init 1 (none) 0 := ⟨q165, q474, by decide +kernel, by decide +kernel, by decide +kernel⟩
theorem mmJ5_init_d00df : MM yJ5_init_d00df cJ5_init_d00df 2 (none) 1 := ⟨q168, q684, by decide +kernel, by decide +kernel, by decide +kernel⟩
theorem mmX1_init : MM yX1_init cX1_init 1 (none) 0 := ⟨q164, q468, by decide +kernel, by decide +kernel, by decide +kernel⟩
theorem mmX2_init : MM yX2_init cX2_init 1 (none) 0 := ⟨q160, q252, by decide +kernel, by decide +kernel, by decide +kernel⟩
theorem mmX8_init : MM yX8_init cX8_init 1 (none) 0 := ⟨q161, q300, by decide +kernel, by decide +kernel, by decide +kernel⟩
