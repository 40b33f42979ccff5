/-! PinEngines.<init>, over the tape -/
theorem inX12_t : ∀ w ∈ u_ws RX12 TX12 17, w ∈ tb := u_in (fun k hk => match k, hk with
  | 0, _ => q756
  | 1, _ => q758
  | 2, _ => q760
  | 3, _ => q762
  | 4, _ => q764
  | 5, _ => q766
  | 6, _ => q768
  | 7, _ => q770
  | 8, _ => q772
  | 9, _ => q774
  | 10, _ => q776
  | 11, _ => q778
  | 12, _ => q780
  | 13, _ => q782
  | 14, _ => q784
  | 15, _ => q786
  | 16, _ => q788
  | _ + 17, hk => absurd hk (by omega))
theorem fqX12_9 : FQ RX12 9 13 0 (.array .byte) true := ⟨RX12, TX12, 17, tyX12, rfl, inX12_t, by decide, q739, tyX12_ok, nmX12, rfl, by decide +kernel, fun _ => rfl⟩
theorem fqX12_13 : FQ RX12 13 13 1 (.int) false := ⟨RX12, TX12, 17, tyX12, rfl, inX12_t, by decide, q740, tyX12_ok, nmX12, rfl, by decide +kernel, fun _ => rfl⟩
theorem fqX12_17 : FQ RX12 17 13 2 (.int) false := ⟨RX12, TX12, 17, tyX12, rfl, inX12_t, by decide, q741, tyX12_ok, nmX12, rfl, by decide +kernel, fun _ => rfl⟩
theorem fqX12_25 : FQ RX12 25 13 3 (.object "PinEngines$Tokens") true := ⟨RX12, TX12, 17, tyX12, rfl, inX12_t, by decide, q742, tyX12_ok, nmX12, rfl, by decide +kernel, fun _ => rfl⟩
theorem fqX12_32 : FQ RX12 32 13 4 (.object "PinEngines$Program") false := ⟨RX12, TX12, 17, tyX12, rfl, inX12_t, by decide, q743, tyX12_ok, nmX12, rfl, by decide +kernel, fun _ => rfl⟩
theorem fqX12_36 : FQ RX12 36 13 5 (.object "PinEngines$Program") false := ⟨RX12, TX12, 17, tyX12, rfl, inX12_t, by decide, q744, tyX12_ok, nmX12, rfl, by decide +kernel, fun _ => rfl⟩
theorem fqX12_44 : FQ RX12 44 13 6 (.object "PinEngines$ProgramReader") true := ⟨RX12, TX12, 17, tyX12, rfl, inX12_t, by decide, q745, tyX12_ok, nmX12, rfl, by decide +kernel, fun _ => rfl⟩
theorem fqX12_51 : FQ RX12 51 13 7 (.object "PinEngines$Machine") true := ⟨RX12, TX12, 17, tyX12, rfl, inX12_t, by decide, q746, tyX12_ok, nmX12, rfl, by decide +kernel, fun _ => rfl⟩
theorem fqX12_55 : FQ RX12 55 13 8 (.object "PinEngines$Machine") true := ⟨RX12, TX12, 17, tyX12, rfl, inX12_t, by decide, q747, tyX12_ok, nmX12, rfl, by decide +kernel, fun _ => rfl⟩
theorem fqX12_63 : FQ RX12 63 13 9 (.object "PinEngines$Simulator") true := ⟨RX12, TX12, 17, tyX12, rfl, inX12_t, by decide, q748, tyX12_ok, nmX12, rfl, by decide +kernel, fun _ => rfl⟩
theorem fqX12_72 : FQ RX12 72 13 10 (.object "PinEngines$QueryReader") true := ⟨RX12, TX12, 17, tyX12, rfl, inX12_t, by decide, q749, tyX12_ok, nmX12, rfl, by decide +kernel, fun _ => rfl⟩
theorem fqX12_76 : FQ RX12 76 13 11 (.object "PinEngines$Machine") true := ⟨RX12, TX12, 17, tyX12, rfl, inX12_t, by decide, q750, tyX12_ok, nmX12, rfl, by decide +kernel, fun _ => rfl⟩
theorem fqX12_79 : FQ RX12 79 13 12 (.boolean) false := ⟨RX12, TX12, 17, tyX12, rfl, inX12_t, by decide, q751, tyX12_ok, nmX12, rfl, by decide +kernel, fun _ => rfl⟩
theorem fqX12_83 : FQ RX12 83 13 13 (.array (.object "PinEngines$Machine")) true := ⟨RX12, TX12, 17, tyX12, rfl, inX12_t, by decide, q752, tyX12_ok, nmX12, rfl, by decide +kernel, fun _ => rfl⟩
theorem fqX12_87 : FQ RX12 87 13 14 (.int) false := ⟨RX12, TX12, 17, tyX12, rfl, inX12_t, by decide, q753, tyX12_ok, nmX12, rfl, by decide +kernel, fun _ => rfl⟩
theorem fqX12_90 : FQ RX12 90 13 15 (.int) false := ⟨RX12, TX12, 17, tyX12, rfl, inX12_t, by decide, q754, tyX12_ok, nmX12, rfl, by decide +kernel, fun _ => rfl⟩
theorem fqX12_96 : FQ RX12 96 13 16 (.object "java/lang/StringBuilder") true := ⟨RX12, TX12, 17, tyX12, rfl, inX12_t, by decide, q755, tyX12_ok, nmX12, rfl, by decide +kernel, fun _ => rfl⟩
theorem nqX12_20 : NQ RX12 20 12 9 [.null, .null, .null, .null, .null, .int 0, .int 0, .int 0, .int 0] := ⟨RX11, TX11, tyX11, rfl, inX11_t, tyX11_ok, q195, q196, q156, fun j hj => match j, hj with
  | 0, _ => rfl
  | 1, _ => rfl
  | 2, _ => rfl
  | 3, _ => rfl
  | 4, _ => rfl
  | 5, _ => rfl
  | 6, _ => rfl
  | 7, _ => rfl
  | 8, _ => rfl
  | _ + 9, hj => absurd hj (by omega)⟩
theorem nqX12_29 : NQ RX12 29 5 5 [.int 0, .int 0, .null, .null, .null] := ⟨RX4, TX4, tyX4, rfl, inX4_t, tyX4_ok, q239, q240, q159, fun j hj => match j, hj with
  | 0, _ => rfl
  | 1, _ => rfl
  | 2, _ => rfl
  | 3, _ => rfl
  | 4, _ => rfl
  | _ + 5, hj => absurd hj (by omega)⟩
theorem nqX12_39 : NQ RX12 39 6 6 [.null, .null, .int 0, .int 0, .null, .null] := ⟨RX5, TX5, tyX5, rfl, inX5_t, tyX5_ok, q432, q433, q162, fun j hj => match j, hj with
  | 0, _ => rfl
  | 1, _ => rfl
  | 2, _ => rfl
  | 3, _ => rfl
  | 4, _ => rfl
  | 5, _ => rfl
  | _ + 6, hj => absurd hj (by omega)⟩
theorem nqX12_48 : NQ RX12 48 4 14 [.int 0, .int 0, .int 0, .int 0, .int 0, .int 0, .null, .null, .int 0, .null, .int 0, .null, .null, .null] := ⟨RX3, TX3, tyX3, rfl, inX3_t, tyX3_ok, q457, q458, q163, fun j hj => match j, hj with
  | 0, _ => rfl
  | 1, _ => rfl
  | 2, _ => rfl
  | 3, _ => rfl
  | 4, _ => rfl
  | 5, _ => rfl
  | 6, _ => rfl
  | 7, _ => rfl
  | 8, _ => rfl
  | 9, _ => rfl
  | 10, _ => rfl
  | 11, _ => rfl
  | 12, _ => rfl
  | 13, _ => rfl
  | _ + 14, hj => absurd hj (by omega)⟩
theorem nqX12_58 : NQ RX12 58 10 7 [.null, .null, .int 0, .int 0, .int 0, .int 0, .int 0] := ⟨RX9, TX9, tyX9, rfl, inX9_t, tyX9_ok, q628, q629, q166, fun j hj => match j, hj with
  | 0, _ => rfl
  | 1, _ => rfl
  | 2, _ => rfl
  | 3, _ => rfl
  | 4, _ => rfl
  | 5, _ => rfl
  | 6, _ => rfl
  | _ + 7, hj => absurd hj (by omega)⟩
theorem nqX12_67 : NQ RX12 67 7 4 [.null, .null, .null, .null] := ⟨RX6, TX6, tyX6, rfl, inX6_t, tyX6_ok, q657, q658, q167, fun j hj => match j, hj with
  | 0, _ => rfl
  | 1, _ => rfl
  | 2, _ => rfl
  | 3, _ => rfl
  | _ + 4, hj => absurd hj (by omega)⟩
theorem nqX12_93 : NQ RX12 93 1 4 [.null, .int 0, .int 0, .int 0] := ⟨RJ4, TJ4, tyJ4, rfl, inJ4_t, tyJ4_ok, q677, q678, q169, fun j hj => match j, hj with
  | 0, _ => rfl
  | 1, _ => rfl
  | 2, _ => rfl
  | 3, _ => rfl
  | _ + 4, hj => absurd hj (by omega)⟩
theorem mmX11_init : MM yX11_init cX11_init 3 (none) 1 := ⟨q156, q199, by decide +kernel, by decide +kernel, by decide +kernel⟩
theorem mmX4_init : MM yX4_init cX4_init 2 (none) 0 := ⟨q159, q243, by decide +kernel, by decide +kernel, by decide +kernel⟩
theorem mmX5_init : MM yX5_init cX5_init 3 (none) 2 := ⟨q162, q436, by decide +kernel, by decide +kernel, by decide +kernel⟩
theorem mmX3_init : MM yX3_init cX3_init 2 (none) 0 := ⟨q163, q461, by decide +kernel, by decide +kernel, by decide +kernel⟩
theorem mmX9_init : MM yX9_init cX9_init 3 (none) 2 := ⟨q166, q632, by decide +kernel, by decide +kernel, by decide +kernel⟩
theorem mmX6_init : MM yX6_init cX6_init 3 (none) 2 := ⟨q167, q661, by decide +kernel, by decide +kernel, by decide +kernel⟩
theorem mmJ4_init_da8c8 : MM yJ4_init_da8c8 cJ4_init_da8c8 1 (none) 0 := ⟨q169, q681, by decide +kernel, by decide +kernel, by decide +kernel⟩
theorem tcTok_len {ad : Nat → Nat → Nat} {ty : Nat → ClassId} {b a1 : Nat} : (tcTok ad ty b a1).length = 5 := rfl
theorem tcPro_len {ad : Nat → Nat → Nat} {ty : Nat → ClassId} {b : Nat} : (tcPro ad ty b).length = 40 := rfl
theorem tcPrd_len {ad : Nat → Nat → Nat} {ty : Nat → ClassId} {b a1 a2 : Nat} : (tcPrd ad ty b a1 a2).length = 3 := rfl
theorem tcMac_len {ad : Nat → Nat → Nat} {ty : Nat → ClassId} {b : Nat} : (tcMac ad ty b).length = 31 := rfl
theorem tcSim_len {ad : Nat → Nat → Nat} {ty : Nat → ClassId} {b a1 a2 : Nat} : (tcSim ad ty b a1 a2).length = 1 := rfl
theorem tcQrd_len {ad : Nat → Nat → Nat} {ty : Nat → ClassId} {b a1 a2 : Nat} : (tcQrd ad ty b a1 a2).length = 3 := rfl
theorem tcSB_len {ad : Nat → Nat → Nat} {ty : Nat → ClassId} {b : Nat} : (tcSB ad ty b).length = 2 := rfl
def peP (ad : Nat → Nat → Nat) (ty : Nat → ClassId) (b : Nat) : List va_E := (.inr (13, [.ref (b + 1), .int (0 : Int32), .int (-1 : Int32), .ref (b + 2), .ref (b + 7), .ref (b + 47), .ref (b + 87), .ref (b + 90), .ref (b + 121), .ref (b + 152), .ref (b + 153), .ref (b + 156), .int (0 : Int32), .ref (b + 187), .int (0 : Int32), .int (0 : Int32), .ref (b + 188)]) : va_E) :: (((((((((([(.inl (ty 1, 1000, .inl (fun _ => 0)) : va_E)] ++ tcTok (ad) (ty) (b + 2) (b + 1)) ++ tcPro (ad) (ty) (b + 7)) ++ tcPro (ad) (ty) (b + 47)) ++ tcPrd (ad) (ty) (b + 87) (b + 2) (b + 47)) ++ tcMac (ad) (ty) (b + 90)) ++ tcMac (ad) (ty) (b + 121)) ++ tcSim (ad) (ty) (b + 152) (b + 7) (b + 90)) ++ tcQrd (ad) (ty) (b + 153) (b + 2) (b + 90)) ++ tcMac (ad) (ty) (b + 156)))
theorem peP_len {ad : Nat → Nat → Nat} {ty : Nat → ClassId} {b : Nat} : (peP ad ty b).length = 187 := by
  unfold peP
  simp only [List.length_cons, List.length_append, List.length_nil, tcTok_len, tcPro_len, tcPrd_len, tcMac_len, tcSim_len, tcQrd_len, tcSB_len]
def pm (ad : Nat → Nat → Nat) (ty : Nat → ClassId) (b k : Nat) : List va_E := (List.range k).flatMap (fun i => tcMac ad ty (b + (190 + 31 * i)))
theorem pm_succ {ad : Nat → Nat → Nat} {ty : Nat → ClassId} {b k : Nat} : pm ad ty b (k + 1) = pm ad ty b k ++ tcMac ad ty (b + (190 + 31 * k)) := by
  unfold pm
  rw [List.range_succ, List.flatMap_append]
  simp only [List.flatMap_cons, List.flatMap_nil, List.append_nil]
theorem pm_len {ad : Nat → Nat → Nat} {ty : Nat → ClassId} {b : Nat} : ∀ k : Nat, (pm ad ty b k).length = 31 * k
  | 0 => rfl
  | k + 1 => by rw [pm_succ, List.length_append, pm_len k, tcMac_len]; omega
def peA (ty : Nat → ClassId) (b k : Nat) : va_E := .inl (ty 7, 10, .inr (.inr (.inr (.inr (pt (fun i => b + (190 + 31 * i)) k)))))
def peE (ad : Nat → Nat → Nat) (ty : Nat → ClassId) (b i k : Nat) : List va_E := peP ad ty b ++ (peA ty b i :: (tcSB ad ty (b + 188) ++ pm ad ty b k))
theorem peE_len {ad : Nat → Nat → Nat} {ty : Nat → ClassId} {b i k : Nat} : (peE ad ty b i k).length = 190 + 31 * k := by
  unfold peE
  rw [List.length_append, List.length_cons, List.length_append, peP_len, tcSB_len, pm_len]; omega
theorem mid_get {es fs : List va_E} {x : va_E} {n : Nat} (h : es.length = n) : (es ++ x :: fs)[n]? = some x := by
  rw [List.getElem?_append_right (by omega), h, Nat.sub_self]; rfl
theorem mid_set {es fs : List va_E} {x y : va_E} {n : Nat} (h : es.length = n) : (es ++ x :: fs).set n y = es ++ y :: fs := by
  rw [List.set_append_right _ _ (by omega), h, Nat.sub_self]; rfl
theorem peE_succ {ad : Nat → Nat → Nat} {ty : Nat → ClassId} {b i k : Nat} : peE ad ty b i (k + 1) = peE ad ty b i k ++ tcMac ad ty (b + (190 + 31 * k)) := by
  unfold peE
  rw [pm_succ]
  simp only [List.append_assoc, List.cons_append]
set_option maxHeartbeats 4000000 in
set_option maxRecDepth 100000 in
theorem pe_s0 (X : CX) (b : Nat) (C : OT X RX12 cX12_init b) (hI : Ini X) (R0 : Rm X 5 110 499 10296) (R : List va_E) (hR : ((.inr (13, [.null, .int 0, .int 0, .null, .null, .null, .null, .null, .null, .null, .null, .null, .int 0, .null, .int 0, .int 0, .null]) : va_E) :: R).length = 1) (K : T1 X 1 1000 b ((.inr (13, [.ref (b + 1), .int 0, .int 0, .null, .null, .null, .null, .null, .null, .null, .null, .null, .int 0, .null, .int 0, .int 0, .null]) : va_E) :: (R ++ [(.inl (xt X 1, 1000, .inl (fun _ => 0)) : va_E)])) 13 [(0, .ref b)] []) : T1 X 0 0 b ((.inr (13, [.null, .int 0, .int 0, .null, .null, .null, .null, .null, .null, .null, .null, .null, .int 0, .null, .int 0, .int 0, .null]) : va_E) :: R) 0 [(0, .ref b)] [] := by
  refine t_aload_n C dX12_init_0 rfl 0 rfl ?_
  refine t_obj (R0 := Ini) C R0 q192 q193 q194 ⟨by decide, by decide⟩ dX12_init_1 ?_
  refine t_aload_n C dX12_init_4 rfl 0 rfl ?_
  refine t_sipush (v := (1000 : Int32)) C dX12_init_5 (by decide) ?_
  refine t_newa (at0 := .byte) (es' := (.inr (13, [.null, .int 0, .int 0, .null, .null, .null, .null, .null, .null, .null, .null, .null, .int 0, .null, .int 0, .int 0, .null]) : va_E) :: (R ++ [(.inl (xt X 1, 1000, .inl (fun _ => 0)) : va_E)])) (j := 1) (N := 1000) (t0 := 1) C R0 q237 (fun _ => rfl) (fun _ _ => rfl) (fun _ => rfl) (by decide) (by decide) (Nat.le_of_ble_eq_true rfl) (Nat.le_of_ble_eq_true rfl) (Nat.le_of_ble_eq_true rfl) rfl hR dX12_init_8 ?_
  refine t_put (es' := (.inr (13, [.ref (b + 1), .int 0, .int 0, .null, .null, .null, .null, .null, .null, .null, .null, .null, .int 0, .null, .int 0, .int 0, .null]) : va_E) :: (R ++ [(.inl (xt X 1, 1000, .inl (fun _ => 0)) : va_E)])) C fqX12_9 (fun _ => hI) 0 rfl (Nat.le_of_ble_eq_true rfl) rfl rfl rfl dX12_init_10 ?_
  exact K
set_option maxHeartbeats 4000000 in
set_option maxRecDepth 100000 in
theorem pe_s1 (X : CX) (b : Nat) (C : OT X RX12 cX12_init b) (hI : Ini X) (R0 : Rm X 5 110 499 10296) (R : List va_E) (hR : ((.inr (13, [.ref (b + 1), .int 0, .int 0, .null, .null, .null, .null, .null, .null, .null, .null, .null, .int 0, .null, .int 0, .int 0, .null]) : va_E) :: R).length = 2) (K : T1 X 1 1000 b ((.inr (13, [.ref (b + 1), .int (0 : Int32), .int 0, .null, .null, .null, .null, .null, .null, .null, .null, .null, .int 0, .null, .int 0, .int 0, .null]) : va_E) :: (R)) 18 [(0, .ref b)] []) : T1 X 1 1000 b ((.inr (13, [.ref (b + 1), .int 0, .int 0, .null, .null, .null, .null, .null, .null, .null, .null, .null, .int 0, .null, .int 0, .int 0, .null]) : va_E) :: R) 13 [(0, .ref b)] [] := by
  refine t_aload_n C dX12_init_13 rfl 0 rfl ?_
  refine t_iconst (v := (0 : Int32)) C dX12_init_14 (by decide) ?_
  refine t_put (es' := (.inr (13, [.ref (b + 1), .int (0 : Int32), .int 0, .null, .null, .null, .null, .null, .null, .null, .null, .null, .int 0, .null, .int 0, .int 0, .null]) : va_E) :: (R)) C fqX12_13 (fun _ => hI) 0 rfl (Nat.le_of_ble_eq_true rfl) rfl rfl rfl dX12_init_15 ?_
  exact K
set_option maxHeartbeats 4000000 in
set_option maxRecDepth 100000 in
theorem pe_s2 (X : CX) (b : Nat) (C : OT X RX12 cX12_init b) (hI : Ini X) (R0 : Rm X 5 110 499 10296) (R : List va_E) (hR : ((.inr (13, [.ref (b + 1), .int (0 : Int32), .int 0, .null, .null, .null, .null, .null, .null, .null, .null, .null, .int 0, .null, .int 0, .int 0, .null]) : va_E) :: R).length = 2) (K : T1 X 1 1000 b ((.inr (13, [.ref (b + 1), .int (0 : Int32), .int (-1 : Int32), .null, .null, .null, .null, .null, .null, .null, .null, .null, .int 0, .null, .int 0, .int 0, .null]) : va_E) :: (R)) 23 [(0, .ref b)] []) : T1 X 1 1000 b ((.inr (13, [.ref (b + 1), .int (0 : Int32), .int 0, .null, .null, .null, .null, .null, .null, .null, .null, .null, .int 0, .null, .int 0, .int 0, .null]) : va_E) :: R) 18 [(0, .ref b)] [] := by
  refine t_aload_n C dX12_init_18 rfl 0 rfl ?_
  refine t_iconst (v := (-1 : Int32)) C dX12_init_19 (by decide) ?_
  refine t_put (es' := (.inr (13, [.ref (b + 1), .int (0 : Int32), .int (-1 : Int32), .null, .null, .null, .null, .null, .null, .null, .null, .null, .int 0, .null, .int 0, .int 0, .null]) : va_E) :: (R)) C fqX12_17 (fun _ => hI) 0 rfl (Nat.le_of_ble_eq_true rfl) rfl rfl rfl dX12_init_20 ?_
  exact K
set_option maxHeartbeats 4000000 in
set_option maxRecDepth 100000 in
theorem pe_s3 (X : CX) (b : Nat) (C : OT X RX12 cX12_init b) (hI : Ini X) (R0 : Rm X 5 110 499 10296) (R : List va_E) (hR : ((.inr (13, [.ref (b + 1), .int (0 : Int32), .int (-1 : Int32), .null, .null, .null, .null, .null, .null, .null, .null, .null, .int 0, .null, .int 0, .int 0, .null]) : va_E) :: R).length = 2) (K : T1 X 6 5013 b ((.inr (13, [.ref (b + 1), .int (0 : Int32), .int (-1 : Int32), .ref (b + 2), .null, .null, .null, .null, .null, .null, .null, .null, .int 0, .null, .int 0, .int 0, .null]) : va_E) :: (R ++ tcTok (xa X) (xt X) (b + 2) (b + 1))) 38 [(0, .ref b)] []) : T1 X 1 1000 b ((.inr (13, [.ref (b + 1), .int (0 : Int32), .int (-1 : Int32), .null, .null, .null, .null, .null, .null, .null, .null, .null, .int 0, .null, .int 0, .int 0, .null]) : va_E) :: R) 23 [(0, .ref b)] [] := by
  refine t_aload_n C dX12_init_23 rfl 0 rfl ?_
  refine t_new (j := 2) C R0 nqX12_20 (Nat.le_of_ble_eq_true rfl) (Nat.le_of_ble_eq_true rfl) hR dX12_init_24 ?_
  refine t_dup C dX12_init_27 rfl ?_
  refine t_aload_n C dX12_init_28 rfl 0 rfl ?_
  refine t_get (v := .ref (b + 1)) C fqX12_9 0 rfl rfl dX12_init_29 ?_
  refine t_callI (j := 2) (ca := 2) (sl := 1009) (fs := [.inr (12, [.null, .null, .null, .null, .null, .int 0, .int 0, .int 0, .int 0])]) (es := (.inr (13, [.ref (b + 1), .int (0 : Int32), .int (-1 : Int32), .null, .null, .null, .null, .null, .null, .null, .null, .null, .int 0, .null, .int 0, .int 0, .null]) : va_E) :: (R)) (st := [.ref (b + 2), .ref b]) (As := [.ref (b + 1)]) C R0 (fun D => mtX11_init (xl X) D (xa X) (xt X) (b + 2) (b + 1)) mmX11_init rfl q198 q197 hR rfl rfl (Nat.le_of_ble_eq_true rfl) ⟨Nat.le_of_ble_eq_true rfl, Nat.le_of_ble_eq_true rfl, Nat.le_of_ble_eq_true rfl, Nat.le_of_ble_eq_true rfl⟩ dX12_init_32 ?_
  refine t_eq (es' := (.inr (13, [.ref (b + 1), .int (0 : Int32), .int (-1 : Int32), .null, .null, .null, .null, .null, .null, .null, .null, .null, .int 0, .null, .int 0, .int 0, .null]) : va_E) :: (R ++ tcTok (xa X) (xt X) (b + 2) (b + 1))) rfl ?_
  refine t_put (es' := (.inr (13, [.ref (b + 1), .int (0 : Int32), .int (-1 : Int32), .ref (b + 2), .null, .null, .null, .null, .null, .null, .null, .null, .int 0, .null, .int 0, .int 0, .null]) : va_E) :: (R ++ tcTok (xa X) (xt X) (b + 2) (b + 1))) C fqX12_25 (fun _ => hI) 0 rfl (Nat.le_of_ble_eq_true rfl) rfl rfl rfl dX12_init_35 ?_
  exact K
set_option maxHeartbeats 4000000 in
set_option maxRecDepth 100000 in
theorem pe_s4 (X : CX) (b : Nat) (C : OT X RX12 cX12_init b) (hI : Ini X) (R0 : Rm X 5 110 499 10296) (R : List va_E) (hR : ((.inr (13, [.ref (b + 1), .int (0 : Int32), .int (-1 : Int32), .ref (b + 2), .null, .null, .null, .null, .null, .null, .null, .null, .int 0, .null, .int 0, .int 0, .null]) : va_E) :: R).length = 7) (K : T1 X 46 5398 b ((.inr (13, [.ref (b + 1), .int (0 : Int32), .int (-1 : Int32), .ref (b + 2), .ref (b + 7), .null, .null, .null, .null, .null, .null, .null, .int 0, .null, .int 0, .int 0, .null]) : va_E) :: (R ++ tcPro (xa X) (xt X) (b + 7))) 49 [(0, .ref b)] []) : T1 X 6 5013 b ((.inr (13, [.ref (b + 1), .int (0 : Int32), .int (-1 : Int32), .ref (b + 2), .null, .null, .null, .null, .null, .null, .null, .null, .int 0, .null, .int 0, .int 0, .null]) : va_E) :: R) 38 [(0, .ref b)] [] := by
  refine t_aload_n C dX12_init_38 rfl 0 rfl ?_
  refine t_new (j := 7) C R0 nqX12_29 (Nat.le_of_ble_eq_true rfl) (Nat.le_of_ble_eq_true rfl) hR dX12_init_39 ?_
  refine t_dup C dX12_init_42 rfl ?_
  refine t_callI (j := 7) (ca := 7) (sl := 5018) (fs := [.inr (5, [.int 0, .int 0, .null, .null, .null])]) (es := (.inr (13, [.ref (b + 1), .int (0 : Int32), .int (-1 : Int32), .ref (b + 2), .null, .null, .null, .null, .null, .null, .null, .null, .int 0, .null, .int 0, .int 0, .null]) : va_E) :: (R)) (st := [.ref (b + 7), .ref b]) (As := []) C R0 (fun D => mtX4_init (xl X) D (xa X) (xt X) (b + 7)) mmX4_init rfl q242 q241 hR rfl rfl (Nat.le_of_ble_eq_true rfl) ⟨Nat.le_of_ble_eq_true rfl, Nat.le_of_ble_eq_true rfl, Nat.le_of_ble_eq_true rfl, Nat.le_of_ble_eq_true rfl⟩ dX12_init_43 ?_
  refine t_eq (es' := (.inr (13, [.ref (b + 1), .int (0 : Int32), .int (-1 : Int32), .ref (b + 2), .null, .null, .null, .null, .null, .null, .null, .null, .int 0, .null, .int 0, .int 0, .null]) : va_E) :: (R ++ tcPro (xa X) (xt X) (b + 7))) rfl ?_
  refine t_put (es' := (.inr (13, [.ref (b + 1), .int (0 : Int32), .int (-1 : Int32), .ref (b + 2), .ref (b + 7), .null, .null, .null, .null, .null, .null, .null, .int 0, .null, .int 0, .int 0, .null]) : va_E) :: (R ++ tcPro (xa X) (xt X) (b + 7))) C fqX12_32 (fun _ => hI) 0 rfl (Nat.le_of_ble_eq_true rfl) rfl rfl rfl dX12_init_46 ?_
  exact K
set_option maxHeartbeats 4000000 in
set_option maxRecDepth 100000 in
theorem pe_s5 (X : CX) (b : Nat) (C : OT X RX12 cX12_init b) (hI : Ini X) (R0 : Rm X 5 110 499 10296) (R : List va_E) (hR : ((.inr (13, [.ref (b + 1), .int (0 : Int32), .int (-1 : Int32), .ref (b + 2), .ref (b + 7), .null, .null, .null, .null, .null, .null, .null, .int 0, .null, .int 0, .int 0, .null]) : va_E) :: R).length = 47) (K : T1 X 86 5783 b ((.inr (13, [.ref (b + 1), .int (0 : Int32), .int (-1 : Int32), .ref (b + 2), .ref (b + 7), .ref (b + 47), .null, .null, .null, .null, .null, .null, .int 0, .null, .int 0, .int 0, .null]) : va_E) :: (R ++ tcPro (xa X) (xt X) (b + 47))) 60 [(0, .ref b)] []) : T1 X 46 5398 b ((.inr (13, [.ref (b + 1), .int (0 : Int32), .int (-1 : Int32), .ref (b + 2), .ref (b + 7), .null, .null, .null, .null, .null, .null, .null, .int 0, .null, .int 0, .int 0, .null]) : va_E) :: R) 49 [(0, .ref b)] [] := by
  refine t_aload_n C dX12_init_49 rfl 0 rfl ?_
  refine t_new (j := 47) C R0 nqX12_29 (Nat.le_of_ble_eq_true rfl) (Nat.le_of_ble_eq_true rfl) hR dX12_init_50 ?_
  refine t_dup C dX12_init_53 rfl ?_
  refine t_callI (j := 47) (ca := 47) (sl := 5403) (fs := [.inr (5, [.int 0, .int 0, .null, .null, .null])]) (es := (.inr (13, [.ref (b + 1), .int (0 : Int32), .int (-1 : Int32), .ref (b + 2), .ref (b + 7), .null, .null, .null, .null, .null, .null, .null, .int 0, .null, .int 0, .int 0, .null]) : va_E) :: (R)) (st := [.ref (b + 47), .ref b]) (As := []) C R0 (fun D => mtX4_init (xl X) D (xa X) (xt X) (b + 47)) mmX4_init rfl q242 q241 hR rfl rfl (Nat.le_of_ble_eq_true rfl) ⟨Nat.le_of_ble_eq_true rfl, Nat.le_of_ble_eq_true rfl, Nat.le_of_ble_eq_true rfl, Nat.le_of_ble_eq_true rfl⟩ dX12_init_54 ?_
  refine t_eq (es' := (.inr (13, [.ref (b + 1), .int (0 : Int32), .int (-1 : Int32), .ref (b + 2), .ref (b + 7), .null, .null, .null, .null, .null, .null, .null, .int 0, .null, .int 0, .int 0, .null]) : va_E) :: (R ++ tcPro (xa X) (xt X) (b + 47))) rfl ?_
  refine t_put (es' := (.inr (13, [.ref (b + 1), .int (0 : Int32), .int (-1 : Int32), .ref (b + 2), .ref (b + 7), .ref (b + 47), .null, .null, .null, .null, .null, .null, .int 0, .null, .int 0, .int 0, .null]) : va_E) :: (R ++ tcPro (xa X) (xt X) (b + 47))) C fqX12_36 (fun _ => hI) 0 rfl (Nat.le_of_ble_eq_true rfl) rfl rfl rfl dX12_init_57 ?_
  exact K
set_option maxHeartbeats 4000000 in
set_option maxRecDepth 100000 in
theorem pe_s6 (X : CX) (b : Nat) (C : OT X RX12 cX12_init b) (hI : Ini X) (R0 : Rm X 5 110 499 10296) (R : List va_E) (hR : ((.inr (13, [.ref (b + 1), .int (0 : Int32), .int (-1 : Int32), .ref (b + 2), .ref (b + 7), .ref (b + 47), .null, .null, .null, .null, .null, .null, .int 0, .null, .int 0, .int 0, .null]) : va_E) :: R).length = 87) (K : T1 X 89 5853 b ((.inr (13, [.ref (b + 1), .int (0 : Int32), .int (-1 : Int32), .ref (b + 2), .ref (b + 7), .ref (b + 47), .ref (b + 87), .null, .null, .null, .null, .null, .int 0, .null, .int 0, .int 0, .null]) : va_E) :: (R ++ tcPrd (xa X) (xt X) (b + 87) (b + 2) (b + 47))) 79 [(0, .ref b)] []) : T1 X 86 5783 b ((.inr (13, [.ref (b + 1), .int (0 : Int32), .int (-1 : Int32), .ref (b + 2), .ref (b + 7), .ref (b + 47), .null, .null, .null, .null, .null, .null, .int 0, .null, .int 0, .int 0, .null]) : va_E) :: R) 60 [(0, .ref b)] [] := by
  refine t_aload_n C dX12_init_60 rfl 0 rfl ?_
  refine t_new (j := 87) C R0 nqX12_39 (Nat.le_of_ble_eq_true rfl) (Nat.le_of_ble_eq_true rfl) hR dX12_init_61 ?_
  refine t_dup C dX12_init_64 rfl ?_
  refine t_aload_n C dX12_init_65 rfl 0 rfl ?_
  refine t_get (v := .ref (b + 2)) C fqX12_25 0 rfl rfl dX12_init_66 ?_
  refine t_aload_n C dX12_init_69 rfl 0 rfl ?_
  refine t_get (v := .ref (b + 47)) C fqX12_36 0 rfl rfl dX12_init_70 ?_
  refine t_callI (j := 87) (ca := 87) (sl := 5789) (fs := [.inr (6, [.null, .null, .int 0, .int 0, .null, .null])]) (es := (.inr (13, [.ref (b + 1), .int (0 : Int32), .int (-1 : Int32), .ref (b + 2), .ref (b + 7), .ref (b + 47), .null, .null, .null, .null, .null, .null, .int 0, .null, .int 0, .int 0, .null]) : va_E) :: (R)) (st := [.ref (b + 87), .ref b]) (As := [.ref (b + 2), .ref (b + 47)]) C R0 (fun D => mtX5_init (xl X) D (xa X) (xt X) (b + 87) (b + 2) (b + 47)) mmX5_init rfl q435 q434 hR rfl rfl (Nat.le_of_ble_eq_true rfl) ⟨Nat.le_of_ble_eq_true rfl, Nat.le_of_ble_eq_true rfl, Nat.le_of_ble_eq_true rfl, Nat.le_of_ble_eq_true rfl⟩ dX12_init_73 ?_
  refine t_eq (es' := (.inr (13, [.ref (b + 1), .int (0 : Int32), .int (-1 : Int32), .ref (b + 2), .ref (b + 7), .ref (b + 47), .null, .null, .null, .null, .null, .null, .int 0, .null, .int 0, .int 0, .null]) : va_E) :: (R ++ tcPrd (xa X) (xt X) (b + 87) (b + 2) (b + 47))) rfl ?_
  refine t_put (es' := (.inr (13, [.ref (b + 1), .int (0 : Int32), .int (-1 : Int32), .ref (b + 2), .ref (b + 7), .ref (b + 47), .ref (b + 87), .null, .null, .null, .null, .null, .int 0, .null, .int 0, .int 0, .null]) : va_E) :: (R ++ tcPrd (xa X) (xt X) (b + 87) (b + 2) (b + 47))) C fqX12_44 (fun _ => hI) 0 rfl (Nat.le_of_ble_eq_true rfl) rfl rfl rfl dX12_init_76 ?_
  exact K
set_option maxHeartbeats 4000000 in
set_option maxRecDepth 100000 in
theorem pe_s7 (X : CX) (b : Nat) (C : OT X RX12 cX12_init b) (hI : Ini X) (R0 : Rm X 5 110 499 10296) (R : List va_E) (hR : ((.inr (13, [.ref (b + 1), .int (0 : Int32), .int (-1 : Int32), .ref (b + 2), .ref (b + 7), .ref (b + 47), .ref (b + 87), .null, .null, .null, .null, .null, .int 0, .null, .int 0, .int 0, .null]) : va_E) :: R).length = 90) (K : T1 X 120 6191 b ((.inr (13, [.ref (b + 1), .int (0 : Int32), .int (-1 : Int32), .ref (b + 2), .ref (b + 7), .ref (b + 47), .ref (b + 87), .ref (b + 90), .null, .null, .null, .null, .int 0, .null, .int 0, .int 0, .null]) : va_E) :: (R ++ tcMac (xa X) (xt X) (b + 90))) 90 [(0, .ref b)] []) : T1 X 89 5853 b ((.inr (13, [.ref (b + 1), .int (0 : Int32), .int (-1 : Int32), .ref (b + 2), .ref (b + 7), .ref (b + 47), .ref (b + 87), .null, .null, .null, .null, .null, .int 0, .null, .int 0, .int 0, .null]) : va_E) :: R) 79 [(0, .ref b)] [] := by
  refine t_aload_n C dX12_init_79 rfl 0 rfl ?_
  refine t_new (j := 90) C R0 nqX12_48 (Nat.le_of_ble_eq_true rfl) (Nat.le_of_ble_eq_true rfl) hR dX12_init_80 ?_
  refine t_dup C dX12_init_83 rfl ?_
  refine t_callI (j := 90) (ca := 90) (sl := 5867) (fs := [.inr (4, [.int 0, .int 0, .int 0, .int 0, .int 0, .int 0, .null, .null, .int 0, .null, .int 0, .null, .null, .null])]) (es := (.inr (13, [.ref (b + 1), .int (0 : Int32), .int (-1 : Int32), .ref (b + 2), .ref (b + 7), .ref (b + 47), .ref (b + 87), .null, .null, .null, .null, .null, .int 0, .null, .int 0, .int 0, .null]) : va_E) :: (R)) (st := [.ref (b + 90), .ref b]) (As := []) C R0 (fun D => mtX3_init (xl X) D (xa X) (xt X) (b + 90)) mmX3_init rfl q460 q459 hR rfl rfl (Nat.le_of_ble_eq_true rfl) ⟨Nat.le_of_ble_eq_true rfl, Nat.le_of_ble_eq_true rfl, Nat.le_of_ble_eq_true rfl, Nat.le_of_ble_eq_true rfl⟩ dX12_init_84 ?_
  refine t_eq (es' := (.inr (13, [.ref (b + 1), .int (0 : Int32), .int (-1 : Int32), .ref (b + 2), .ref (b + 7), .ref (b + 47), .ref (b + 87), .null, .null, .null, .null, .null, .int 0, .null, .int 0, .int 0, .null]) : va_E) :: (R ++ tcMac (xa X) (xt X) (b + 90))) rfl ?_
  refine t_put (es' := (.inr (13, [.ref (b + 1), .int (0 : Int32), .int (-1 : Int32), .ref (b + 2), .ref (b + 7), .ref (b + 47), .ref (b + 87), .ref (b + 90), .null, .null, .null, .null, .int 0, .null, .int 0, .int 0, .null]) : va_E) :: (R ++ tcMac (xa X) (xt X) (b + 90))) C fqX12_51 (fun _ => hI) 0 rfl (Nat.le_of_ble_eq_true rfl) rfl rfl rfl dX12_init_87 ?_
  exact K
set_option maxHeartbeats 4000000 in
set_option maxRecDepth 100000 in
theorem pe_s8 (X : CX) (b : Nat) (C : OT X RX12 cX12_init b) (hI : Ini X) (R0 : Rm X 5 110 499 10296) (R : List va_E) (hR : ((.inr (13, [.ref (b + 1), .int (0 : Int32), .int (-1 : Int32), .ref (b + 2), .ref (b + 7), .ref (b + 47), .ref (b + 87), .ref (b + 90), .null, .null, .null, .null, .int 0, .null, .int 0, .int 0, .null]) : va_E) :: R).length = 121) (K : T1 X 151 6529 b ((.inr (13, [.ref (b + 1), .int (0 : Int32), .int (-1 : Int32), .ref (b + 2), .ref (b + 7), .ref (b + 47), .ref (b + 87), .ref (b + 90), .ref (b + 121), .null, .null, .null, .int 0, .null, .int 0, .int 0, .null]) : va_E) :: (R ++ tcMac (xa X) (xt X) (b + 121))) 101 [(0, .ref b)] []) : T1 X 120 6191 b ((.inr (13, [.ref (b + 1), .int (0 : Int32), .int (-1 : Int32), .ref (b + 2), .ref (b + 7), .ref (b + 47), .ref (b + 87), .ref (b + 90), .null, .null, .null, .null, .int 0, .null, .int 0, .int 0, .null]) : va_E) :: R) 90 [(0, .ref b)] [] := by
  refine t_aload_n C dX12_init_90 rfl 0 rfl ?_
  refine t_new (j := 121) C R0 nqX12_48 (Nat.le_of_ble_eq_true rfl) (Nat.le_of_ble_eq_true rfl) hR dX12_init_91 ?_
  refine t_dup C dX12_init_94 rfl ?_
  refine t_callI (j := 121) (ca := 121) (sl := 6205) (fs := [.inr (4, [.int 0, .int 0, .int 0, .int 0, .int 0, .int 0, .null, .null, .int 0, .null, .int 0, .null, .null, .null])]) (es := (.inr (13, [.ref (b + 1), .int (0 : Int32), .int (-1 : Int32), .ref (b + 2), .ref (b + 7), .ref (b + 47), .ref (b + 87), .ref (b + 90), .null, .null, .null, .null, .int 0, .null, .int 0, .int 0, .null]) : va_E) :: (R)) (st := [.ref (b + 121), .ref b]) (As := []) C R0 (fun D => mtX3_init (xl X) D (xa X) (xt X) (b + 121)) mmX3_init rfl q460 q459 hR rfl rfl (Nat.le_of_ble_eq_true rfl) ⟨Nat.le_of_ble_eq_true rfl, Nat.le_of_ble_eq_true rfl, Nat.le_of_ble_eq_true rfl, Nat.le_of_ble_eq_true rfl⟩ dX12_init_95 ?_
  refine t_eq (es' := (.inr (13, [.ref (b + 1), .int (0 : Int32), .int (-1 : Int32), .ref (b + 2), .ref (b + 7), .ref (b + 47), .ref (b + 87), .ref (b + 90), .null, .null, .null, .null, .int 0, .null, .int 0, .int 0, .null]) : va_E) :: (R ++ tcMac (xa X) (xt X) (b + 121))) rfl ?_
  refine t_put (es' := (.inr (13, [.ref (b + 1), .int (0 : Int32), .int (-1 : Int32), .ref (b + 2), .ref (b + 7), .ref (b + 47), .ref (b + 87), .ref (b + 90), .ref (b + 121), .null, .null, .null, .int 0, .null, .int 0, .int 0, .null]) : va_E) :: (R ++ tcMac (xa X) (xt X) (b + 121))) C fqX12_55 (fun _ => hI) 0 rfl (Nat.le_of_ble_eq_true rfl) rfl rfl rfl dX12_init_98 ?_
  exact K
set_option maxHeartbeats 4000000 in
set_option maxRecDepth 100000 in
theorem pe_s9 (X : CX) (b : Nat) (C : OT X RX12 cX12_init b) (hI : Ini X) (R0 : Rm X 5 110 499 10296) (R : List va_E) (hR : ((.inr (13, [.ref (b + 1), .int (0 : Int32), .int (-1 : Int32), .ref (b + 2), .ref (b + 7), .ref (b + 47), .ref (b + 87), .ref (b + 90), .ref (b + 121), .null, .null, .null, .int 0, .null, .int 0, .int 0, .null]) : va_E) :: R).length = 152) (K : T1 X 152 6536 b ((.inr (13, [.ref (b + 1), .int (0 : Int32), .int (-1 : Int32), .ref (b + 2), .ref (b + 7), .ref (b + 47), .ref (b + 87), .ref (b + 90), .ref (b + 121), .ref (b + 152), .null, .null, .int 0, .null, .int 0, .int 0, .null]) : va_E) :: (R ++ tcSim (xa X) (xt X) (b + 152) (b + 7) (b + 90))) 120 [(0, .ref b)] []) : T1 X 151 6529 b ((.inr (13, [.ref (b + 1), .int (0 : Int32), .int (-1 : Int32), .ref (b + 2), .ref (b + 7), .ref (b + 47), .ref (b + 87), .ref (b + 90), .ref (b + 121), .null, .null, .null, .int 0, .null, .int 0, .int 0, .null]) : va_E) :: R) 101 [(0, .ref b)] [] := by
  refine t_aload_n C dX12_init_101 rfl 0 rfl ?_
  refine t_new (j := 152) C R0 nqX12_58 (Nat.le_of_ble_eq_true rfl) (Nat.le_of_ble_eq_true rfl) hR dX12_init_102 ?_
  refine t_dup C dX12_init_105 rfl ?_
  refine t_aload_n C dX12_init_106 rfl 0 rfl ?_
  refine t_get (v := .ref (b + 7)) C fqX12_32 0 rfl rfl dX12_init_107 ?_
  refine t_aload_n C dX12_init_110 rfl 0 rfl ?_
  refine t_get (v := .ref (b + 90)) C fqX12_51 0 rfl rfl dX12_init_111 ?_
  refine t_callI (j := 152) (ca := 152) (sl := 6536) (fs := [.inr (10, [.null, .null, .int 0, .int 0, .int 0, .int 0, .int 0])]) (es := (.inr (13, [.ref (b + 1), .int (0 : Int32), .int (-1 : Int32), .ref (b + 2), .ref (b + 7), .ref (b + 47), .ref (b + 87), .ref (b + 90), .ref (b + 121), .null, .null, .null, .int 0, .null, .int 0, .int 0, .null]) : va_E) :: (R)) (st := [.ref (b + 152), .ref b]) (As := [.ref (b + 7), .ref (b + 90)]) C R0 (fun D => mtX9_init (xl X) D (xa X) (xt X) (b + 152) (b + 7) (b + 90)) mmX9_init rfl q631 q630 hR rfl rfl (Nat.le_of_ble_eq_true rfl) ⟨Nat.le_of_ble_eq_true rfl, Nat.le_of_ble_eq_true rfl, Nat.le_of_ble_eq_true rfl, Nat.le_of_ble_eq_true rfl⟩ dX12_init_114 ?_
  refine t_eq (es' := (.inr (13, [.ref (b + 1), .int (0 : Int32), .int (-1 : Int32), .ref (b + 2), .ref (b + 7), .ref (b + 47), .ref (b + 87), .ref (b + 90), .ref (b + 121), .null, .null, .null, .int 0, .null, .int 0, .int 0, .null]) : va_E) :: (R ++ tcSim (xa X) (xt X) (b + 152) (b + 7) (b + 90))) rfl ?_
  refine t_put (es' := (.inr (13, [.ref (b + 1), .int (0 : Int32), .int (-1 : Int32), .ref (b + 2), .ref (b + 7), .ref (b + 47), .ref (b + 87), .ref (b + 90), .ref (b + 121), .ref (b + 152), .null, .null, .int 0, .null, .int 0, .int 0, .null]) : va_E) :: (R ++ tcSim (xa X) (xt X) (b + 152) (b + 7) (b + 90))) C fqX12_63 (fun _ => hI) 0 rfl (Nat.le_of_ble_eq_true rfl) rfl rfl rfl dX12_init_117 ?_
  exact K
set_option maxHeartbeats 4000000 in
set_option maxRecDepth 100000 in
theorem pe_s10 (X : CX) (b : Nat) (C : OT X RX12 cX12_init b) (hI : Ini X) (R0 : Rm X 5 110 499 10296) (R : List va_E) (hR : ((.inr (13, [.ref (b + 1), .int (0 : Int32), .int (-1 : Int32), .ref (b + 2), .ref (b + 7), .ref (b + 47), .ref (b + 87), .ref (b + 90), .ref (b + 121), .ref (b + 152), .null, .null, .int 0, .null, .int 0, .int 0, .null]) : va_E) :: R).length = 153) (K : T1 X 155 6548 b ((.inr (13, [.ref (b + 1), .int (0 : Int32), .int (-1 : Int32), .ref (b + 2), .ref (b + 7), .ref (b + 47), .ref (b + 87), .ref (b + 90), .ref (b + 121), .ref (b + 152), .ref (b + 153), .null, .int 0, .null, .int 0, .int 0, .null]) : va_E) :: (R ++ tcQrd (xa X) (xt X) (b + 153) (b + 2) (b + 90))) 139 [(0, .ref b)] []) : T1 X 152 6536 b ((.inr (13, [.ref (b + 1), .int (0 : Int32), .int (-1 : Int32), .ref (b + 2), .ref (b + 7), .ref (b + 47), .ref (b + 87), .ref (b + 90), .ref (b + 121), .ref (b + 152), .null, .null, .int 0, .null, .int 0, .int 0, .null]) : va_E) :: R) 120 [(0, .ref b)] [] := by
  refine t_aload_n C dX12_init_120 rfl 0 rfl ?_
  refine t_new (j := 153) C R0 nqX12_67 (Nat.le_of_ble_eq_true rfl) (Nat.le_of_ble_eq_true rfl) hR dX12_init_121 ?_
  refine t_dup C dX12_init_124 rfl ?_
  refine t_aload_n C dX12_init_125 rfl 0 rfl ?_
  refine t_get (v := .ref (b + 2)) C fqX12_25 0 rfl rfl dX12_init_126 ?_
  refine t_aload_n C dX12_init_129 rfl 0 rfl ?_
  refine t_get (v := .ref (b + 90)) C fqX12_51 0 rfl rfl dX12_init_130 ?_
  refine t_callI (j := 153) (ca := 153) (sl := 6540) (fs := [.inr (7, [.null, .null, .null, .null])]) (es := (.inr (13, [.ref (b + 1), .int (0 : Int32), .int (-1 : Int32), .ref (b + 2), .ref (b + 7), .ref (b + 47), .ref (b + 87), .ref (b + 90), .ref (b + 121), .ref (b + 152), .null, .null, .int 0, .null, .int 0, .int 0, .null]) : va_E) :: (R)) (st := [.ref (b + 153), .ref b]) (As := [.ref (b + 2), .ref (b + 90)]) C R0 (fun D => mtX6_init (xl X) D (xa X) (xt X) (b + 153) (b + 2) (b + 90)) mmX6_init rfl q660 q659 hR rfl rfl (Nat.le_of_ble_eq_true rfl) ⟨Nat.le_of_ble_eq_true rfl, Nat.le_of_ble_eq_true rfl, Nat.le_of_ble_eq_true rfl, Nat.le_of_ble_eq_true rfl⟩ dX12_init_133 ?_
  refine t_eq (es' := (.inr (13, [.ref (b + 1), .int (0 : Int32), .int (-1 : Int32), .ref (b + 2), .ref (b + 7), .ref (b + 47), .ref (b + 87), .ref (b + 90), .ref (b + 121), .ref (b + 152), .null, .null, .int 0, .null, .int 0, .int 0, .null]) : va_E) :: (R ++ tcQrd (xa X) (xt X) (b + 153) (b + 2) (b + 90))) rfl ?_
  refine t_put (es' := (.inr (13, [.ref (b + 1), .int (0 : Int32), .int (-1 : Int32), .ref (b + 2), .ref (b + 7), .ref (b + 47), .ref (b + 87), .ref (b + 90), .ref (b + 121), .ref (b + 152), .ref (b + 153), .null, .int 0, .null, .int 0, .int 0, .null]) : va_E) :: (R ++ tcQrd (xa X) (xt X) (b + 153) (b + 2) (b + 90))) C fqX12_72 (fun _ => hI) 0 rfl (Nat.le_of_ble_eq_true rfl) rfl rfl rfl dX12_init_136 ?_
  exact K
set_option maxHeartbeats 4000000 in
set_option maxRecDepth 100000 in
theorem pe_s11 (X : CX) (b : Nat) (C : OT X RX12 cX12_init b) (hI : Ini X) (R0 : Rm X 5 110 499 10296) (R : List va_E) (hR : ((.inr (13, [.ref (b + 1), .int (0 : Int32), .int (-1 : Int32), .ref (b + 2), .ref (b + 7), .ref (b + 47), .ref (b + 87), .ref (b + 90), .ref (b + 121), .ref (b + 152), .ref (b + 153), .null, .int 0, .null, .int 0, .int 0, .null]) : va_E) :: R).length = 156) (K : T1 X 186 6886 b ((.inr (13, [.ref (b + 1), .int (0 : Int32), .int (-1 : Int32), .ref (b + 2), .ref (b + 7), .ref (b + 47), .ref (b + 87), .ref (b + 90), .ref (b + 121), .ref (b + 152), .ref (b + 153), .ref (b + 156), .int 0, .null, .int 0, .int 0, .null]) : va_E) :: (R ++ tcMac (xa X) (xt X) (b + 156))) 150 [(0, .ref b)] []) : T1 X 155 6548 b ((.inr (13, [.ref (b + 1), .int (0 : Int32), .int (-1 : Int32), .ref (b + 2), .ref (b + 7), .ref (b + 47), .ref (b + 87), .ref (b + 90), .ref (b + 121), .ref (b + 152), .ref (b + 153), .null, .int 0, .null, .int 0, .int 0, .null]) : va_E) :: R) 139 [(0, .ref b)] [] := by
  refine t_aload_n C dX12_init_139 rfl 0 rfl ?_
  refine t_new (j := 156) C R0 nqX12_48 (Nat.le_of_ble_eq_true rfl) (Nat.le_of_ble_eq_true rfl) hR dX12_init_140 ?_
  refine t_dup C dX12_init_143 rfl ?_
  refine t_callI (j := 156) (ca := 156) (sl := 6562) (fs := [.inr (4, [.int 0, .int 0, .int 0, .int 0, .int 0, .int 0, .null, .null, .int 0, .null, .int 0, .null, .null, .null])]) (es := (.inr (13, [.ref (b + 1), .int (0 : Int32), .int (-1 : Int32), .ref (b + 2), .ref (b + 7), .ref (b + 47), .ref (b + 87), .ref (b + 90), .ref (b + 121), .ref (b + 152), .ref (b + 153), .null, .int 0, .null, .int 0, .int 0, .null]) : va_E) :: (R)) (st := [.ref (b + 156), .ref b]) (As := []) C R0 (fun D => mtX3_init (xl X) D (xa X) (xt X) (b + 156)) mmX3_init rfl q460 q459 hR rfl rfl (Nat.le_of_ble_eq_true rfl) ⟨Nat.le_of_ble_eq_true rfl, Nat.le_of_ble_eq_true rfl, Nat.le_of_ble_eq_true rfl, Nat.le_of_ble_eq_true rfl⟩ dX12_init_144 ?_
  refine t_eq (es' := (.inr (13, [.ref (b + 1), .int (0 : Int32), .int (-1 : Int32), .ref (b + 2), .ref (b + 7), .ref (b + 47), .ref (b + 87), .ref (b + 90), .ref (b + 121), .ref (b + 152), .ref (b + 153), .null, .int 0, .null, .int 0, .int 0, .null]) : va_E) :: (R ++ tcMac (xa X) (xt X) (b + 156))) rfl ?_
  refine t_put (es' := (.inr (13, [.ref (b + 1), .int (0 : Int32), .int (-1 : Int32), .ref (b + 2), .ref (b + 7), .ref (b + 47), .ref (b + 87), .ref (b + 90), .ref (b + 121), .ref (b + 152), .ref (b + 153), .ref (b + 156), .int 0, .null, .int 0, .int 0, .null]) : va_E) :: (R ++ tcMac (xa X) (xt X) (b + 156))) C fqX12_76 (fun _ => hI) 0 rfl (Nat.le_of_ble_eq_true rfl) rfl rfl rfl dX12_init_147 ?_
  exact K
set_option maxHeartbeats 4000000 in
set_option maxRecDepth 100000 in
theorem pe_s12 (X : CX) (b : Nat) (C : OT X RX12 cX12_init b) (hI : Ini X) (R0 : Rm X 5 110 499 10296) (R : List va_E) (hR : ((.inr (13, [.ref (b + 1), .int (0 : Int32), .int (-1 : Int32), .ref (b + 2), .ref (b + 7), .ref (b + 47), .ref (b + 87), .ref (b + 90), .ref (b + 121), .ref (b + 152), .ref (b + 153), .ref (b + 156), .int 0, .null, .int 0, .int 0, .null]) : va_E) :: R).length = 187) (K : T1 X 186 6886 b ((.inr (13, [.ref (b + 1), .int (0 : Int32), .int (-1 : Int32), .ref (b + 2), .ref (b + 7), .ref (b + 47), .ref (b + 87), .ref (b + 90), .ref (b + 121), .ref (b + 152), .ref (b + 153), .ref (b + 156), .int (0 : Int32), .null, .int 0, .int 0, .null]) : va_E) :: (R)) 155 [(0, .ref b)] []) : T1 X 186 6886 b ((.inr (13, [.ref (b + 1), .int (0 : Int32), .int (-1 : Int32), .ref (b + 2), .ref (b + 7), .ref (b + 47), .ref (b + 87), .ref (b + 90), .ref (b + 121), .ref (b + 152), .ref (b + 153), .ref (b + 156), .int 0, .null, .int 0, .int 0, .null]) : va_E) :: R) 150 [(0, .ref b)] [] := by
  refine t_aload_n C dX12_init_150 rfl 0 rfl ?_
  refine t_iconst (v := (0 : Int32)) C dX12_init_151 (by decide) ?_
  refine t_put (es' := (.inr (13, [.ref (b + 1), .int (0 : Int32), .int (-1 : Int32), .ref (b + 2), .ref (b + 7), .ref (b + 47), .ref (b + 87), .ref (b + 90), .ref (b + 121), .ref (b + 152), .ref (b + 153), .ref (b + 156), .int (0 : Int32), .null, .int 0, .int 0, .null]) : va_E) :: (R)) C fqX12_79 (fun _ => hI) 0 rfl (Nat.le_of_ble_eq_true rfl) rfl rfl rfl dX12_init_152 ?_
  exact K
set_option maxHeartbeats 4000000 in
set_option maxRecDepth 100000 in
theorem pe_s13 (X : CX) (b : Nat) (C : OT X RX12 cX12_init b) (hI : Ini X) (R0 : Rm X 5 110 499 10296) (R : List va_E) (hR : ((.inr (13, [.ref (b + 1), .int (0 : Int32), .int (-1 : Int32), .ref (b + 2), .ref (b + 7), .ref (b + 47), .ref (b + 87), .ref (b + 90), .ref (b + 121), .ref (b + 152), .ref (b + 153), .ref (b + 156), .int (0 : Int32), .null, .int 0, .int 0, .null]) : va_E) :: R).length = 187) (K : T1 X 187 6896 b ((.inr (13, [.ref (b + 1), .int (0 : Int32), .int (-1 : Int32), .ref (b + 2), .ref (b + 7), .ref (b + 47), .ref (b + 87), .ref (b + 90), .ref (b + 121), .ref (b + 152), .ref (b + 153), .ref (b + 156), .int (0 : Int32), .ref (b + 187), .int 0, .int 0, .null]) : va_E) :: (R ++ [(.inl (xt X 7, 10, .inr (.inr (.inr (.inr (fun _ => none))))) : va_E)])) 164 [(0, .ref b)] []) : T1 X 186 6886 b ((.inr (13, [.ref (b + 1), .int (0 : Int32), .int (-1 : Int32), .ref (b + 2), .ref (b + 7), .ref (b + 47), .ref (b + 87), .ref (b + 90), .ref (b + 121), .ref (b + 152), .ref (b + 153), .ref (b + 156), .int (0 : Int32), .null, .int 0, .int 0, .null]) : va_E) :: R) 155 [(0, .ref b)] [] := by
  refine t_aload_n C dX12_init_155 rfl 0 rfl ?_
  refine t_bipush (v := (10 : Int32)) C dX12_init_156 (by decide) ?_
  refine t_newq (es' := (.inr (13, [.ref (b + 1), .int (0 : Int32), .int (-1 : Int32), .ref (b + 2), .ref (b + 7), .ref (b + 47), .ref (b + 87), .ref (b + 90), .ref (b + 121), .ref (b + 152), .ref (b + 153), .ref (b + 156), .int (0 : Int32), .null, .int 0, .int 0, .null]) : va_E) :: (R ++ [(.inl (xt X 7, 10, .inr (.inr (.inr (.inr (fun _ => none))))) : va_E)])) (j := 187) (N := 10) (t0 := 7) C R0 q457 (by decide) (fun _ => rfl) (by decide) (by decide) (Nat.le_of_ble_eq_true rfl) (Nat.le_of_ble_eq_true rfl) (Nat.le_of_ble_eq_true rfl) rfl hR dX12_init_158 ?_
  refine t_put (es' := (.inr (13, [.ref (b + 1), .int (0 : Int32), .int (-1 : Int32), .ref (b + 2), .ref (b + 7), .ref (b + 47), .ref (b + 87), .ref (b + 90), .ref (b + 121), .ref (b + 152), .ref (b + 153), .ref (b + 156), .int (0 : Int32), .ref (b + 187), .int 0, .int 0, .null]) : va_E) :: (R ++ [(.inl (xt X 7, 10, .inr (.inr (.inr (.inr (fun _ => none))))) : va_E)])) C fqX12_83 (fun _ => hI) 0 rfl (Nat.le_of_ble_eq_true rfl) rfl rfl rfl dX12_init_161 ?_
  exact K
set_option maxHeartbeats 4000000 in
set_option maxRecDepth 100000 in
theorem pe_s14 (X : CX) (b : Nat) (C : OT X RX12 cX12_init b) (hI : Ini X) (R0 : Rm X 5 110 499 10296) (R : List va_E) (hR : ((.inr (13, [.ref (b + 1), .int (0 : Int32), .int (-1 : Int32), .ref (b + 2), .ref (b + 7), .ref (b + 47), .ref (b + 87), .ref (b + 90), .ref (b + 121), .ref (b + 152), .ref (b + 153), .ref (b + 156), .int (0 : Int32), .ref (b + 187), .int 0, .int 0, .null]) : va_E) :: R).length = 188) (K : T1 X 187 6896 b ((.inr (13, [.ref (b + 1), .int (0 : Int32), .int (-1 : Int32), .ref (b + 2), .ref (b + 7), .ref (b + 47), .ref (b + 87), .ref (b + 90), .ref (b + 121), .ref (b + 152), .ref (b + 153), .ref (b + 156), .int (0 : Int32), .ref (b + 187), .int (0 : Int32), .int 0, .null]) : va_E) :: (R)) 169 [(0, .ref b)] []) : T1 X 187 6896 b ((.inr (13, [.ref (b + 1), .int (0 : Int32), .int (-1 : Int32), .ref (b + 2), .ref (b + 7), .ref (b + 47), .ref (b + 87), .ref (b + 90), .ref (b + 121), .ref (b + 152), .ref (b + 153), .ref (b + 156), .int (0 : Int32), .ref (b + 187), .int 0, .int 0, .null]) : va_E) :: R) 164 [(0, .ref b)] [] := by
  refine t_aload_n C dX12_init_164 rfl 0 rfl ?_
  refine t_iconst (v := (0 : Int32)) C dX12_init_165 (by decide) ?_
  refine t_put (es' := (.inr (13, [.ref (b + 1), .int (0 : Int32), .int (-1 : Int32), .ref (b + 2), .ref (b + 7), .ref (b + 47), .ref (b + 87), .ref (b + 90), .ref (b + 121), .ref (b + 152), .ref (b + 153), .ref (b + 156), .int (0 : Int32), .ref (b + 187), .int (0 : Int32), .int 0, .null]) : va_E) :: (R)) C fqX12_87 (fun _ => hI) 0 rfl (Nat.le_of_ble_eq_true rfl) rfl rfl rfl dX12_init_166 ?_
  exact K
set_option maxHeartbeats 4000000 in
set_option maxRecDepth 100000 in
theorem pe_s15 (X : CX) (b : Nat) (C : OT X RX12 cX12_init b) (hI : Ini X) (R0 : Rm X 5 110 499 10296) (R : List va_E) (hR : ((.inr (13, [.ref (b + 1), .int (0 : Int32), .int (-1 : Int32), .ref (b + 2), .ref (b + 7), .ref (b + 47), .ref (b + 87), .ref (b + 90), .ref (b + 121), .ref (b + 152), .ref (b + 153), .ref (b + 156), .int (0 : Int32), .ref (b + 187), .int (0 : Int32), .int 0, .null]) : va_E) :: R).length = 188) (K : T1 X 187 6896 b ((.inr (13, [.ref (b + 1), .int (0 : Int32), .int (-1 : Int32), .ref (b + 2), .ref (b + 7), .ref (b + 47), .ref (b + 87), .ref (b + 90), .ref (b + 121), .ref (b + 152), .ref (b + 153), .ref (b + 156), .int (0 : Int32), .ref (b + 187), .int (0 : Int32), .int (0 : Int32), .null]) : va_E) :: (R)) 174 [(0, .ref b)] []) : T1 X 187 6896 b ((.inr (13, [.ref (b + 1), .int (0 : Int32), .int (-1 : Int32), .ref (b + 2), .ref (b + 7), .ref (b + 47), .ref (b + 87), .ref (b + 90), .ref (b + 121), .ref (b + 152), .ref (b + 153), .ref (b + 156), .int (0 : Int32), .ref (b + 187), .int (0 : Int32), .int 0, .null]) : va_E) :: R) 169 [(0, .ref b)] [] := by
  refine t_aload_n C dX12_init_169 rfl 0 rfl ?_
  refine t_iconst (v := (0 : Int32)) C dX12_init_170 (by decide) ?_
  refine t_put (es' := (.inr (13, [.ref (b + 1), .int (0 : Int32), .int (-1 : Int32), .ref (b + 2), .ref (b + 7), .ref (b + 47), .ref (b + 87), .ref (b + 90), .ref (b + 121), .ref (b + 152), .ref (b + 153), .ref (b + 156), .int (0 : Int32), .ref (b + 187), .int (0 : Int32), .int (0 : Int32), .null]) : va_E) :: (R)) C fqX12_90 (fun _ => hI) 0 rfl (Nat.le_of_ble_eq_true rfl) rfl rfl rfl dX12_init_171 ?_
  exact K
set_option maxHeartbeats 4000000 in
set_option maxRecDepth 100000 in
theorem pe_s16 (X : CX) (b : Nat) (C : OT X RX12 cX12_init b) (hI : Ini X) (R0 : Rm X 5 110 499 10296) (R : List va_E) (hR : ((.inr (13, [.ref (b + 1), .int (0 : Int32), .int (-1 : Int32), .ref (b + 2), .ref (b + 7), .ref (b + 47), .ref (b + 87), .ref (b + 90), .ref (b + 121), .ref (b + 152), .ref (b + 153), .ref (b + 156), .int (0 : Int32), .ref (b + 187), .int (0 : Int32), .int (0 : Int32), .null]) : va_E) :: R).length = 188) (K : T1 X 189 6916 b ((.inr (13, [.ref (b + 1), .int (0 : Int32), .int (-1 : Int32), .ref (b + 2), .ref (b + 7), .ref (b + 47), .ref (b + 87), .ref (b + 90), .ref (b + 121), .ref (b + 152), .ref (b + 153), .ref (b + 156), .int (0 : Int32), .ref (b + 187), .int (0 : Int32), .int (0 : Int32), .ref (b + 188)]) : va_E) :: (R ++ tcSB (xa X) (xt X) (b + 188))) 185 [(0, .ref b)] []) : T1 X 187 6896 b ((.inr (13, [.ref (b + 1), .int (0 : Int32), .int (-1 : Int32), .ref (b + 2), .ref (b + 7), .ref (b + 47), .ref (b + 87), .ref (b + 90), .ref (b + 121), .ref (b + 152), .ref (b + 153), .ref (b + 156), .int (0 : Int32), .ref (b + 187), .int (0 : Int32), .int (0 : Int32), .null]) : va_E) :: R) 174 [(0, .ref b)] [] := by
  refine t_aload_n C dX12_init_174 rfl 0 rfl ?_
  refine t_new (j := 188) C R0 nqX12_93 (Nat.le_of_ble_eq_true rfl) (Nat.le_of_ble_eq_true rfl) hR dX12_init_175 ?_
  refine t_dup C dX12_init_178 rfl ?_
  refine t_callI (j := 188) (ca := 188) (sl := 6900) (fs := [.inr (1, [.null, .int 0, .int 0, .int 0])]) (es := (.inr (13, [.ref (b + 1), .int (0 : Int32), .int (-1 : Int32), .ref (b + 2), .ref (b + 7), .ref (b + 47), .ref (b + 87), .ref (b + 90), .ref (b + 121), .ref (b + 152), .ref (b + 153), .ref (b + 156), .int (0 : Int32), .ref (b + 187), .int (0 : Int32), .int (0 : Int32), .null]) : va_E) :: (R)) (st := [.ref (b + 188), .ref b]) (As := []) C R0 (fun D => mtJ4_init_da8c8 (xl X) D (xa X) (xt X) (b + 188)) mmJ4_init_da8c8 rfl q680 q679 hR rfl rfl (Nat.le_of_ble_eq_true rfl) ⟨Nat.le_of_ble_eq_true rfl, Nat.le_of_ble_eq_true rfl, Nat.le_of_ble_eq_true rfl, Nat.le_of_ble_eq_true rfl⟩ dX12_init_179 ?_
  refine t_eq (es' := (.inr (13, [.ref (b + 1), .int (0 : Int32), .int (-1 : Int32), .ref (b + 2), .ref (b + 7), .ref (b + 47), .ref (b + 87), .ref (b + 90), .ref (b + 121), .ref (b + 152), .ref (b + 153), .ref (b + 156), .int (0 : Int32), .ref (b + 187), .int (0 : Int32), .int (0 : Int32), .null]) : va_E) :: (R ++ tcSB (xa X) (xt X) (b + 188))) rfl ?_
  refine t_put (es' := (.inr (13, [.ref (b + 1), .int (0 : Int32), .int (-1 : Int32), .ref (b + 2), .ref (b + 7), .ref (b + 47), .ref (b + 87), .ref (b + 90), .ref (b + 121), .ref (b + 152), .ref (b + 153), .ref (b + 156), .int (0 : Int32), .ref (b + 187), .int (0 : Int32), .int (0 : Int32), .ref (b + 188)]) : va_E) :: (R ++ tcSB (xa X) (xt X) (b + 188))) C fqX12_96 (fun _ => hI) 0 rfl (Nat.le_of_ble_eq_true rfl) rfl rfl rfl dX12_init_182 ?_
  exact K
set_option maxHeartbeats 4000000 in
set_option maxRecDepth 100000 in
theorem pe_tape (X : CX) (b : Nat) (C : OT X RX12 cX12_init b) (hI : Ini X) (hN : ∀ i : Nat, i < 2 → i < xn X) (R0 : Rm X 5 110 499 10296) (K : T1 X (189 + 31 * 10) (6916 + 338 * 10) b (peE (xa X) (xt X) b 10 10) 212 [(1, .int (nI 10)), (0, .ref b)] []) : T1 X 0 0 b [.inr (13, [.null, .int 0, .int 0, .null, .null, .null, .null, .null, .null, .null, .null, .null, .int 0, .null, .int 0, .int 0, .null])] 0 [(0, .ref b)] [] := by
  refine pe_s0 X b C hI R0 _ (rfl) ?_
  refine pe_s1 X b C hI R0 _ (by simp only [List.length_cons, List.length_append, List.length_nil, tcTok_len, tcPro_len, tcPrd_len, tcMac_len, tcSim_len, tcQrd_len, tcSB_len]) ?_
  refine pe_s2 X b C hI R0 _ (by simp only [List.length_cons, List.length_append, List.length_nil, tcTok_len, tcPro_len, tcPrd_len, tcMac_len, tcSim_len, tcQrd_len, tcSB_len]) ?_
  refine pe_s3 X b C hI R0 _ (by simp only [List.length_cons, List.length_append, List.length_nil, tcTok_len, tcPro_len, tcPrd_len, tcMac_len, tcSim_len, tcQrd_len, tcSB_len]) ?_
  refine pe_s4 X b C hI R0 _ (by simp only [List.length_cons, List.length_append, List.length_nil, tcTok_len, tcPro_len, tcPrd_len, tcMac_len, tcSim_len, tcQrd_len, tcSB_len]) ?_
  refine pe_s5 X b C hI R0 _ (by simp only [List.length_cons, List.length_append, List.length_nil, tcTok_len, tcPro_len, tcPrd_len, tcMac_len, tcSim_len, tcQrd_len, tcSB_len]) ?_
  refine pe_s6 X b C hI R0 _ (by simp only [List.length_cons, List.length_append, List.length_nil, tcTok_len, tcPro_len, tcPrd_len, tcMac_len, tcSim_len, tcQrd_len, tcSB_len]) ?_
  refine pe_s7 X b C hI R0 _ (by simp only [List.length_cons, List.length_append, List.length_nil, tcTok_len, tcPro_len, tcPrd_len, tcMac_len, tcSim_len, tcQrd_len, tcSB_len]) ?_
  refine pe_s8 X b C hI R0 _ (by simp only [List.length_cons, List.length_append, List.length_nil, tcTok_len, tcPro_len, tcPrd_len, tcMac_len, tcSim_len, tcQrd_len, tcSB_len]) ?_
  refine pe_s9 X b C hI R0 _ (by simp only [List.length_cons, List.length_append, List.length_nil, tcTok_len, tcPro_len, tcPrd_len, tcMac_len, tcSim_len, tcQrd_len, tcSB_len]) ?_
  refine pe_s10 X b C hI R0 _ (by simp only [List.length_cons, List.length_append, List.length_nil, tcTok_len, tcPro_len, tcPrd_len, tcMac_len, tcSim_len, tcQrd_len, tcSB_len]) ?_
  refine pe_s11 X b C hI R0 _ (by simp only [List.length_cons, List.length_append, List.length_nil, tcTok_len, tcPro_len, tcPrd_len, tcMac_len, tcSim_len, tcQrd_len, tcSB_len]) ?_
  refine pe_s12 X b C hI R0 _ (by simp only [List.length_cons, List.length_append, List.length_nil, tcTok_len, tcPro_len, tcPrd_len, tcMac_len, tcSim_len, tcQrd_len, tcSB_len]) ?_
  refine pe_s13 X b C hI R0 _ (by simp only [List.length_cons, List.length_append, List.length_nil, tcTok_len, tcPro_len, tcPrd_len, tcMac_len, tcSim_len, tcQrd_len, tcSB_len]) ?_
  refine pe_s14 X b C hI R0 _ (by simp only [List.length_cons, List.length_append, List.length_nil, tcTok_len, tcPro_len, tcPrd_len, tcMac_len, tcSim_len, tcQrd_len, tcSB_len]) ?_
  refine pe_s15 X b C hI R0 _ (by simp only [List.length_cons, List.length_append, List.length_nil, tcTok_len, tcPro_len, tcPrd_len, tcMac_len, tcSim_len, tcQrd_len, tcSB_len]) ?_
  refine pe_s16 X b C hI R0 _ (by simp only [List.length_cons, List.length_append, List.length_nil, tcTok_len, tcPro_len, tcPrd_len, tcMac_len, tcSim_len, tcQrd_len, tcSB_len]) ?_
  refine t_eq (es' := peE (xa X) (xt X) b 0 0) (by unfold peE peA peP pm; rw [pt_0]; simp only [List.cons_append, List.append_assoc, List.nil_append, List.range_zero, List.flatMap_nil, List.append_nil]) ?_
  refine t_iconst (v := (0 : Int32)) C dX12_init_185 (by decide) ?_
  refine t_istore_n (L' := [(1, .int (nI 0)), (0, .ref b)]) C dX12_init_186 rfl (hN 1 (by decide)) rfl ?_
  have loop : ∀ d k : Nat, k + d = 10 → T1 X (189 + 31 * k) (6916 + 338 * k) b (peE (xa X) (xt X) b k k) 187 [(1, .int (nI k)), (0, .ref b)] [] := by
    intro d
    induction d with
    | zero =>
      intro k hk
      obtain rfl : k = 10 := by omega
      refine t_iload_n C dX12_init_187 rfl 0 rfl ?_
      refine t_bipush (v := (10 : Int32)) C dX12_init_188 (by decide) ?_
      exact t_icmp_ge (tgt := 212) C dX12_init_190 (by decide) (fun _ => K) (fun h => absurd (show (10 : Int32) ≤ nI 10 by decide) h)
    | succ d ih =>
      intro k hk
      refine t_iload_n C dX12_init_187 rfl 0 rfl ?_
      refine t_bipush (v := (10 : Int32)) C dX12_init_188 (by decide) ?_
      refine t_icmp_ge (tgt := 212) C dX12_init_190 (by decide) (fun h => absurd h (nI_lt32 (k := k) (N := 10) (by omega) (by decide))) (fun _ => ?_)
      refine t_aload_n C dX12_init_193 rfl 1 rfl ?_
      refine t_get (v := .ref (b + 187)) C fqX12_83 0 rfl rfl dX12_init_194 ?_
      refine t_iload_n C dX12_init_197 rfl 0 rfl ?_
      refine t_new (j := 190 + 31 * k) C R0 nqX12_48 (by omega) (by omega) peE_len dX12_init_198 ?_
      refine t_dup C dX12_init_201 rfl ?_
      refine t_callI (j := 190 + 31 * k) (ca := (189 + 31 * k) + 1) (sl := (6916 + 338 * k) + 14) (fs := [.inr (4, [.int 0, .int 0, .int 0, .int 0, .int 0, .int 0, .null, .null, .int 0, .null, .int 0, .null, .null, .null])]) (es := peE (xa X) (xt X) b k k) (st := [.ref (b + (190 + 31 * k)), .int (nI k), .ref (b + 187)]) (As := []) C R0 (fun D => mtX3_init (xl X) D (xa X) (xt X) (b + (190 + 31 * k))) mmX3_init rfl q460 q459 peE_len rfl rfl (Nat.le_of_ble_eq_true rfl) ⟨by decide, by decide, by omega, by omega⟩ dX12_init_202 ?_
      refine t_eq (es' := peE (xa X) (xt X) b k (k + 1)) peE_succ.symm ?_
      refine t_aast (es' := peE (xa X) (xt X) b (k + 1) (k + 1)) C 187 7 (fun _ => rfl) (mid_get peP_len) (vp_in_nI (by omega) (by decide)) (hr_tape (q := 190 + 31 * k) (ci := 4) (by rw [peE_succ, List.getElem?_append_right (by rw [peE_len]; exact Nat.le_refl _), peE_len, Nat.sub_self]; rfl) rfl) rfl (pt_up (nI_clamp (by omega)) rfl) (mid_set peP_len) dX12_init_205 ?_
      refine t_iinc (v := nI (k + 1)) (j := 0) (L' := [(1, .int (nI (k + 1))), (0, .ref b)]) C dX12_init_206 rfl (nI_1 k) (hN 1 (by decide)) rfl ?_
      refine t_goto (tgt := 187) C dX12_init_209 (by decide) ?_
      exact t_wid (by omega) (by omega) (ih (k + 1) (by omega))
  exact t_wid (by omega) (by omega) (loop 10 0 rfl)

