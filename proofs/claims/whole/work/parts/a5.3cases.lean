/-! the law's cases -/
def lcs_33 (fu gu : Nat) (xs : Nat → Int32) (SL : Nat) (i : Int32) (μ : Mem) : Option Mem :=
  ckI (i + (1 : Int32)) SL <|
  ckI (i + (2 : Int32)) SL <|
  ckI (i + (3 : Int32)) SL <|
  bnd (fL_cyclesUntil fu 0 (xs (i + (1 : Int32)).toNatClampNeg) (xs (i + (2 : Int32)).toNatClampNeg) (xs (i + (3 : Int32)).toNatClampNeg) 0 μ) fun x2 μ1 =>
  ckI (i + (1 : Int32)) SL <|
  ckI (i + (2 : Int32)) SL <|
  ckI (i + (3 : Int32)) SL <|
  bndJ μ1 (fX13_cyclesUntil gu 0 (xs (i + (1 : Int32)).toNatClampNeg) (xs (i + (2 : Int32)).toNatClampNeg) (xs (i + (3 : Int32)).toNatClampNeg) (kJ μ μ1)) fun x4 μ3 =>
  bndJ μ3 (fX13_thrown 0 (kJ μ μ3)) fun x6 μ5 =>
  if x6 = x2 then (
    jn (fun (μ8 : Mem) =>
      some μ8
    ) fun j2174 =>
    if ¬ x2 = 0 then (
      j2174 μ5
    ) else (
      ckI (0 : Int32) (1) <|
      if (lg_cmp (μ5.2.2 31 0 (0 : Int32).toNatClampNeg) (x4.toInt64)) = 0 then (
        j2174 μ5
      ) else (
        none
      )
    )
  ) else (
    none
  )
set_option maxHeartbeats 4000000 in
set_option maxRecDepth 100000 in
theorem lcz_33 {X : CX} (hT : (xl X).stackTraces = false) (V : 2 ≤ xv X) (C : Ok X RL cL_law) (R0 : Rm X 2048 84000 601024 7293034) (hN : ∀ i : Nat, i < 8 → i < xn X) {bs SL : Nat} {xs : Nat → Int32} (S : Scr X bs SL xs) (fu gu : Nat) {ca sl : Nat} (hc : ca + 3 ≤ 601024) (hs : sl + 18 ≤ 7293034) (i : Int32) (μ r0 : Mem) (H0 : J X (ca + 3) (sl + 18) r0 2636 [(4, .int i), (0, .ref bs), (1, .ref (xa X 0 0)), (2, .ref (xa X 26 0)), (3, .ref (xa X 31 0))] []) : G X r0 ca sl μ 2097 [(4, .int i), (0, .ref bs), (1, .ref (xa X 0 0)), (2, .ref (xa X 26 0)), (3, .ref (xa X 31 0))] [] (lcs_33 fu gu xs SL i μ) := by
  unfold lcs_33
  refine s_aload_n C dL_law_2097 rfl 2 rfl ?_
  refine s_aload_n C dL_law_2098 rfl 1 rfl ?_
  refine s_iload C dL_law_2099 0 rfl ?_
  refine s_iconst (v := (1 : Int32)) C dL_law_2101 (by decide) ?_
  refine s_iadd C dL_law_2102 ?_
  refine s_sld C S dL_law_2103 ?_
  refine s_aload_n C dL_law_2104 rfl 1 rfl ?_
  refine s_iload C dL_law_2105 0 rfl ?_
  refine s_iconst (v := (2 : Int32)) C dL_law_2107 (by decide) ?_
  refine s_iadd C dL_law_2108 ?_
  refine s_sld C S dL_law_2109 ?_
  refine s_aload_n C dL_law_2110 rfl 1 rfl ?_
  refine s_iload C dL_law_2111 0 rfl ?_
  refine s_iconst (v := (3 : Int32)) C dL_law_2113 (by decide) ?_
  refine s_iadd C dL_law_2114 ?_
  refine s_sld C S dL_law_2115 ?_
  refine s_aload_n C dL_law_2116 rfl 4 rfl ?_
  refine s_callH (n := 5) C R0 (kL_cyclesUntil (xl X) hT fu 0 (by decide) (xs (i + (1 : Int32)).toNatClampNeg) (xs (i + (2 : Int32)).toNatClampNeg) (xs (i + (3 : Int32)).toNatClampNeg) 0 (by decide)) (Nat.le_trans (by decide) V) q154 q1649 ⟨by decide +kernel, by decide +kernel, by decide +kernel⟩ q1648 q1647 rfl rfl rfl (Nat.le_of_ble_eq_true rfl) ⟨Nat.le_of_ble_eq_true rfl, Nat.le_of_ble_eq_true rfl, by omega, by omega⟩ dL_law_2117 (fun x2 μ1 => ?_)
  refine g_st (st' := [.int x2]) rfl ?_
  refine s_istore (L' := [(5, .int x2), (4, .int i), (0, .ref bs), (1, .ref (xa X 0 0)), (2, .ref (xa X 26 0)), (3, .ref (xa X 31 0))]) C dL_law_2120 (hN 5 (by decide)) rfl ?_
  refine s_aload_n C dL_law_2122 rfl 4 rfl ?_
  refine s_aload_n C dL_law_2123 rfl 2 rfl ?_
  refine s_iload C dL_law_2124 1 rfl ?_
  refine s_iconst (v := (1 : Int32)) C dL_law_2126 (by decide) ?_
  refine s_iadd C dL_law_2127 ?_
  refine s_sld C S dL_law_2128 ?_
  refine s_aload_n C dL_law_2129 rfl 2 rfl ?_
  refine s_iload C dL_law_2130 1 rfl ?_
  refine s_iconst (v := (2 : Int32)) C dL_law_2132 (by decide) ?_
  refine s_iadd C dL_law_2133 ?_
  refine s_sld C S dL_law_2134 ?_
  refine s_aload_n C dL_law_2135 rfl 2 rfl ?_
  refine s_iload C dL_law_2136 1 rfl ?_
  refine s_iconst (v := (3 : Int32)) C dL_law_2138 (by decide) ?_
  refine s_iadd C dL_law_2139 ?_
  refine s_sld C S dL_law_2140 ?_
  refine s_callM C R0 V (kX13_cyclesUntil (xl X) gu 0 (by decide) (xs (i + (1 : Int32)).toNatClampNeg) (xs (i + (2 : Int32)).toNatClampNeg) (xs (i + (3 : Int32)).toNatClampNeg)) mmX13_cyclesUntil miX13_cyclesUntil q2580 (rc26 (Nat.le_trans (by decide) V)) (by decide) rfl rfl rfl (Nat.le_of_ble_eq_true rfl) ⟨Nat.le_of_ble_eq_true rfl, Nat.le_of_ble_eq_true rfl, by omega, by omega⟩ dL_law_2141 (fun x4 μ3 => ?_)
  refine g_st (st' := [.int x4]) rfl ?_
  refine s_istore (L' := [(6, .int x4), (5, .int x2), (4, .int i), (0, .ref bs), (1, .ref (xa X 0 0)), (2, .ref (xa X 26 0)), (3, .ref (xa X 31 0))]) C dL_law_2144 (hN 6 (by decide)) rfl ?_
  refine s_aload_n C dL_law_2146 rfl 5 rfl ?_
  refine s_callM C R0 V (kX13_thrown (xl X) 0 (by decide)) mmX13_thrown miX13_thrown q2229 (rc26 (Nat.le_trans (by decide) V)) (by decide) rfl rfl rfl (Nat.le_of_ble_eq_true rfl) ⟨Nat.le_of_ble_eq_true rfl, Nat.le_of_ble_eq_true rfl, by omega, by omega⟩ dL_law_2147 (fun x6 μ5 => ?_)
  refine g_st (st' := [.int x6]) rfl ?_
  refine s_iload C dL_law_2150 1 rfl ?_
  refine s_icmp_eq (tgt := 2157) C dL_law_2152 (by decide) (fun c7 => ?_) (fun c7 => ?_)
  ·
    refine g_jn (P := fun j2174 => ∀ (μ8 : Mem), G X r0 (ca + 3) (sl + 18) μ8 2174 [(0, .ref bs), (1, .ref (xa X 0 0)), (2, .ref (xa X 26 0)), (3, .ref (xa X 31 0)), (4, .int i)] [] (j2174 μ8)) ?_ (fun j2174 hj2174 => ?_)
    · intro μ8
      refine s_goto (tgt := 2636) C dL_law_2174 (by decide) ?_
      exact g_endL (ca1 := ca + 3) (sl1 := sl + 18) (by omega) (by omega) [4, 0, 1, 2, 3] rfl H0
    refine s_iload C dL_law_2157 1 rfl ?_
    refine s_if_ne (tgt := 2174) C dL_law_2159 (by decide) (fun c9 => ?_) (fun c9 => ?_)
    ·
      exact g_wid (ca1 := ca + 3) (sl1 := sl + 18) (by omega) (by omega) <| g_sub [3, 4, 5, 6, 2] rfl (hj2174 μ5)
    ·
      refine s_aload_n C dL_law_2162 rfl 6 rfl ?_
      refine s_iconst (v := (0 : Int32)) C dL_law_2163 (by decide) ?_
      refine s_lald C (ag31 V) (by decide) dL_law_2164 ?_
      refine s_iload C dL_law_2165 0 rfl ?_
      refine s_i2l C dL_law_2167 ?_
      refine s_lcmp C dL_law_2168 ?_
      refine s_if_eq (tgt := 2174) C dL_law_2169 (by decide) (fun c10 => ?_) (fun c10 => ?_)
      ·
        exact g_wid (ca1 := ca + 3) (sl1 := sl + 18) (by omega) (by omega) <| g_sub [3, 4, 5, 6, 2] rfl (hj2174 μ5)
      ·
        refine s_iconst (v := (0 : Int32)) C dL_law_2172 (by decide) ?_
        exact g_none
  ·
    refine s_iconst (v := (0 : Int32)) C dL_law_2155 (by decide) ?_
    exact g_none

def lcs_34 (fu gu : Nat) (xs : Nat → Int32) (SL : Nat) (i : Int32) (μ : Mem) : Option Mem :=
  ckI (i + (1 : Int32)) SL <|
  ckI (i + (2 : Int32)) SL <|
  ckI (i + (3 : Int32)) SL <|
  bnd (fL_cyclesTo fu 0 (xs (i + (1 : Int32)).toNatClampNeg) (xs (i + (2 : Int32)).toNatClampNeg) (xs (i + (3 : Int32)).toNatClampNeg) 0 μ) fun x2 μ1 =>
  ckI (i + (1 : Int32)) SL <|
  ckI (i + (2 : Int32)) SL <|
  ckI (i + (3 : Int32)) SL <|
  bndJ μ1 (fX13_cyclesTo gu 0 (xs (i + (1 : Int32)).toNatClampNeg) (xs (i + (2 : Int32)).toNatClampNeg) (xs (i + (3 : Int32)).toNatClampNeg) (kJ μ μ1)) fun x4 μ3 =>
  bndJ μ3 (fX13_thrown 0 (kJ μ μ3)) fun x6 μ5 =>
  if x6 = x2 then (
    jn (fun (μ8 : Mem) =>
      some μ8
    ) fun j2254 =>
    if ¬ x2 = 0 then (
      j2254 μ5
    ) else (
      ckI (0 : Int32) (1) <|
      if (lg_cmp (μ5.2.2 31 0 (0 : Int32).toNatClampNeg) (x4.toInt64)) = 0 then (
        j2254 μ5
      ) else (
        none
      )
    )
  ) else (
    none
  )
set_option maxHeartbeats 4000000 in
set_option maxRecDepth 100000 in
theorem lcz_34 {X : CX} (hT : (xl X).stackTraces = false) (V : 2 ≤ xv X) (C : Ok X RL cL_law) (R0 : Rm X 2048 84000 601024 7293034) (hN : ∀ i : Nat, i < 8 → i < xn X) {bs SL : Nat} {xs : Nat → Int32} (S : Scr X bs SL xs) (fu gu : Nat) {ca sl : Nat} (hc : ca + 3 ≤ 601024) (hs : sl + 18 ≤ 7293034) (i : Int32) (μ r0 : Mem) (H0 : J X (ca + 3) (sl + 18) r0 2636 [(4, .int i), (0, .ref bs), (1, .ref (xa X 0 0)), (2, .ref (xa X 26 0)), (3, .ref (xa X 31 0))] []) : G X r0 ca sl μ 2177 [(4, .int i), (0, .ref bs), (1, .ref (xa X 0 0)), (2, .ref (xa X 26 0)), (3, .ref (xa X 31 0))] [] (lcs_34 fu gu xs SL i μ) := by
  unfold lcs_34
  refine s_aload_n C dL_law_2177 rfl 2 rfl ?_
  refine s_aload_n C dL_law_2178 rfl 1 rfl ?_
  refine s_iload C dL_law_2179 0 rfl ?_
  refine s_iconst (v := (1 : Int32)) C dL_law_2181 (by decide) ?_
  refine s_iadd C dL_law_2182 ?_
  refine s_sld C S dL_law_2183 ?_
  refine s_aload_n C dL_law_2184 rfl 1 rfl ?_
  refine s_iload C dL_law_2185 0 rfl ?_
  refine s_iconst (v := (2 : Int32)) C dL_law_2187 (by decide) ?_
  refine s_iadd C dL_law_2188 ?_
  refine s_sld C S dL_law_2189 ?_
  refine s_aload_n C dL_law_2190 rfl 1 rfl ?_
  refine s_iload C dL_law_2191 0 rfl ?_
  refine s_iconst (v := (3 : Int32)) C dL_law_2193 (by decide) ?_
  refine s_iadd C dL_law_2194 ?_
  refine s_sld C S dL_law_2195 ?_
  refine s_aload_n C dL_law_2196 rfl 4 rfl ?_
  refine s_callH (n := 5) C R0 (kL_cyclesTo (xl X) hT fu 0 (by decide) (xs (i + (1 : Int32)).toNatClampNeg) (xs (i + (2 : Int32)).toNatClampNeg) (xs (i + (3 : Int32)).toNatClampNeg) 0 (by decide)) (Nat.le_trans (by decide) V) q154 q1659 ⟨by decide +kernel, by decide +kernel, by decide +kernel⟩ q1658 q1657 rfl rfl rfl (Nat.le_of_ble_eq_true rfl) ⟨Nat.le_of_ble_eq_true rfl, Nat.le_of_ble_eq_true rfl, by omega, by omega⟩ dL_law_2197 (fun x2 μ1 => ?_)
  refine g_st (st' := [.int x2]) rfl ?_
  refine s_istore (L' := [(5, .int x2), (4, .int i), (0, .ref bs), (1, .ref (xa X 0 0)), (2, .ref (xa X 26 0)), (3, .ref (xa X 31 0))]) C dL_law_2200 (hN 5 (by decide)) rfl ?_
  refine s_aload_n C dL_law_2202 rfl 4 rfl ?_
  refine s_aload_n C dL_law_2203 rfl 2 rfl ?_
  refine s_iload C dL_law_2204 1 rfl ?_
  refine s_iconst (v := (1 : Int32)) C dL_law_2206 (by decide) ?_
  refine s_iadd C dL_law_2207 ?_
  refine s_sld C S dL_law_2208 ?_
  refine s_aload_n C dL_law_2209 rfl 2 rfl ?_
  refine s_iload C dL_law_2210 1 rfl ?_
  refine s_iconst (v := (2 : Int32)) C dL_law_2212 (by decide) ?_
  refine s_iadd C dL_law_2213 ?_
  refine s_sld C S dL_law_2214 ?_
  refine s_aload_n C dL_law_2215 rfl 2 rfl ?_
  refine s_iload C dL_law_2216 1 rfl ?_
  refine s_iconst (v := (3 : Int32)) C dL_law_2218 (by decide) ?_
  refine s_iadd C dL_law_2219 ?_
  refine s_sld C S dL_law_2220 ?_
  refine s_callM C R0 V (kX13_cyclesTo (xl X) gu 0 (by decide) (xs (i + (1 : Int32)).toNatClampNeg) (xs (i + (2 : Int32)).toNatClampNeg) (xs (i + (3 : Int32)).toNatClampNeg)) mmX13_cyclesTo miX13_cyclesTo q2587 (rc26 (Nat.le_trans (by decide) V)) (by decide) rfl rfl rfl (Nat.le_of_ble_eq_true rfl) ⟨Nat.le_of_ble_eq_true rfl, Nat.le_of_ble_eq_true rfl, by omega, by omega⟩ dL_law_2221 (fun x4 μ3 => ?_)
  refine g_st (st' := [.int x4]) rfl ?_
  refine s_istore (L' := [(6, .int x4), (5, .int x2), (4, .int i), (0, .ref bs), (1, .ref (xa X 0 0)), (2, .ref (xa X 26 0)), (3, .ref (xa X 31 0))]) C dL_law_2224 (hN 6 (by decide)) rfl ?_
  refine s_aload_n C dL_law_2226 rfl 5 rfl ?_
  refine s_callM C R0 V (kX13_thrown (xl X) 0 (by decide)) mmX13_thrown miX13_thrown q2229 (rc26 (Nat.le_trans (by decide) V)) (by decide) rfl rfl rfl (Nat.le_of_ble_eq_true rfl) ⟨Nat.le_of_ble_eq_true rfl, Nat.le_of_ble_eq_true rfl, by omega, by omega⟩ dL_law_2227 (fun x6 μ5 => ?_)
  refine g_st (st' := [.int x6]) rfl ?_
  refine s_iload C dL_law_2230 1 rfl ?_
  refine s_icmp_eq (tgt := 2237) C dL_law_2232 (by decide) (fun c7 => ?_) (fun c7 => ?_)
  ·
    refine g_jn (P := fun j2254 => ∀ (μ8 : Mem), G X r0 (ca + 3) (sl + 18) μ8 2254 [(0, .ref bs), (1, .ref (xa X 0 0)), (2, .ref (xa X 26 0)), (3, .ref (xa X 31 0)), (4, .int i)] [] (j2254 μ8)) ?_ (fun j2254 hj2254 => ?_)
    · intro μ8
      refine s_goto (tgt := 2636) C dL_law_2254 (by decide) ?_
      exact g_endL (ca1 := ca + 3) (sl1 := sl + 18) (by omega) (by omega) [4, 0, 1, 2, 3] rfl H0
    refine s_iload C dL_law_2237 1 rfl ?_
    refine s_if_ne (tgt := 2254) C dL_law_2239 (by decide) (fun c9 => ?_) (fun c9 => ?_)
    ·
      exact g_wid (ca1 := ca + 3) (sl1 := sl + 18) (by omega) (by omega) <| g_sub [3, 4, 5, 6, 2] rfl (hj2254 μ5)
    ·
      refine s_aload_n C dL_law_2242 rfl 6 rfl ?_
      refine s_iconst (v := (0 : Int32)) C dL_law_2243 (by decide) ?_
      refine s_lald C (ag31 V) (by decide) dL_law_2244 ?_
      refine s_iload C dL_law_2245 0 rfl ?_
      refine s_i2l C dL_law_2247 ?_
      refine s_lcmp C dL_law_2248 ?_
      refine s_if_eq (tgt := 2254) C dL_law_2249 (by decide) (fun c10 => ?_) (fun c10 => ?_)
      ·
        exact g_wid (ca1 := ca + 3) (sl1 := sl + 18) (by omega) (by omega) <| g_sub [3, 4, 5, 6, 2] rfl (hj2254 μ5)
      ·
        refine s_iconst (v := (0 : Int32)) C dL_law_2252 (by decide) ?_
        exact g_none
  ·
    refine s_iconst (v := (0 : Int32)) C dL_law_2235 (by decide) ?_
    exact g_none

def lcs_35 (fu gu : Nat) (xs : Nat → Int32) (SL : Nat) (i : Int32) (μ : Mem) : Option Mem :=
  ckI (i + (1 : Int32)) SL <|
  ckI (i + (2 : Int32)) SL <|
  bnd (fL_period fu 0 (xs (i + (1 : Int32)).toNatClampNeg) (xs (i + (2 : Int32)).toNatClampNeg) 0 μ) fun x2 μ1 =>
  ckI (i + (1 : Int32)) SL <|
  ckI (i + (2 : Int32)) SL <|
  bndJ μ1 (fX13_period gu 0 (xs (i + (1 : Int32)).toNatClampNeg) (xs (i + (2 : Int32)).toNatClampNeg) (kJ μ μ1)) fun x4 μ3 =>
  bndJ μ3 (fX13_thrown 0 (kJ μ μ3)) fun x6 μ5 =>
  if x6 = x2 then (
    jn (fun (μ8 : Mem) =>
      some μ8
    ) fun j2322 =>
    if ¬ x2 = 0 then (
      j2322 μ5
    ) else (
      ckI (0 : Int32) (1) <|
      if (lg_cmp (μ5.2.2 31 0 (0 : Int32).toNatClampNeg) (x4.toInt64)) = 0 then (
        j2322 μ5
      ) else (
        none
      )
    )
  ) else (
    none
  )
set_option maxHeartbeats 4000000 in
set_option maxRecDepth 100000 in
theorem lcz_35 {X : CX} (hT : (xl X).stackTraces = false) (V : 2 ≤ xv X) (C : Ok X RL cL_law) (R0 : Rm X 2048 84000 601024 7293034) (hN : ∀ i : Nat, i < 8 → i < xn X) {bs SL : Nat} {xs : Nat → Int32} (S : Scr X bs SL xs) (fu gu : Nat) {ca sl : Nat} (hc : ca + 2 ≤ 601024) (hs : sl + 12 ≤ 7293034) (i : Int32) (μ r0 : Mem) (H0 : J X (ca + 2) (sl + 12) r0 2636 [(4, .int i), (0, .ref bs), (1, .ref (xa X 0 0)), (2, .ref (xa X 26 0)), (3, .ref (xa X 31 0))] []) : G X r0 ca sl μ 2257 [(4, .int i), (0, .ref bs), (1, .ref (xa X 0 0)), (2, .ref (xa X 26 0)), (3, .ref (xa X 31 0))] [] (lcs_35 fu gu xs SL i μ) := by
  unfold lcs_35
  refine s_aload_n C dL_law_2257 rfl 2 rfl ?_
  refine s_aload_n C dL_law_2258 rfl 1 rfl ?_
  refine s_iload C dL_law_2259 0 rfl ?_
  refine s_iconst (v := (1 : Int32)) C dL_law_2261 (by decide) ?_
  refine s_iadd C dL_law_2262 ?_
  refine s_sld C S dL_law_2263 ?_
  refine s_aload_n C dL_law_2264 rfl 1 rfl ?_
  refine s_iload C dL_law_2265 0 rfl ?_
  refine s_iconst (v := (2 : Int32)) C dL_law_2267 (by decide) ?_
  refine s_iadd C dL_law_2268 ?_
  refine s_sld C S dL_law_2269 ?_
  refine s_aload_n C dL_law_2270 rfl 4 rfl ?_
  refine s_callH (n := 4) C R0 (kL_period (xl X) hT fu 0 (by decide) (xs (i + (1 : Int32)).toNatClampNeg) (xs (i + (2 : Int32)).toNatClampNeg) 0 (by decide)) (Nat.le_trans (by decide) V) q154 q1670 ⟨by decide +kernel, by decide +kernel, by decide +kernel⟩ q1669 q1668 rfl rfl rfl (Nat.le_of_ble_eq_true rfl) ⟨Nat.le_of_ble_eq_true rfl, Nat.le_of_ble_eq_true rfl, by omega, by omega⟩ dL_law_2271 (fun x2 μ1 => ?_)
  refine g_st (st' := [.int x2]) rfl ?_
  refine s_istore (L' := [(5, .int x2), (4, .int i), (0, .ref bs), (1, .ref (xa X 0 0)), (2, .ref (xa X 26 0)), (3, .ref (xa X 31 0))]) C dL_law_2274 (hN 5 (by decide)) rfl ?_
  refine s_aload_n C dL_law_2276 rfl 4 rfl ?_
  refine s_aload_n C dL_law_2277 rfl 2 rfl ?_
  refine s_iload C dL_law_2278 1 rfl ?_
  refine s_iconst (v := (1 : Int32)) C dL_law_2280 (by decide) ?_
  refine s_iadd C dL_law_2281 ?_
  refine s_sld C S dL_law_2282 ?_
  refine s_aload_n C dL_law_2283 rfl 2 rfl ?_
  refine s_iload C dL_law_2284 1 rfl ?_
  refine s_iconst (v := (2 : Int32)) C dL_law_2286 (by decide) ?_
  refine s_iadd C dL_law_2287 ?_
  refine s_sld C S dL_law_2288 ?_
  refine s_callM C R0 V (kX13_period (xl X) gu 0 (by decide) (xs (i + (1 : Int32)).toNatClampNeg) (xs (i + (2 : Int32)).toNatClampNeg)) mmX13_period miX13_period q2591 (rc26 (Nat.le_trans (by decide) V)) (by decide) rfl rfl rfl (Nat.le_of_ble_eq_true rfl) ⟨Nat.le_of_ble_eq_true rfl, Nat.le_of_ble_eq_true rfl, by omega, by omega⟩ dL_law_2289 (fun x4 μ3 => ?_)
  refine g_st (st' := [.int x4]) rfl ?_
  refine s_istore (L' := [(6, .int x4), (5, .int x2), (4, .int i), (0, .ref bs), (1, .ref (xa X 0 0)), (2, .ref (xa X 26 0)), (3, .ref (xa X 31 0))]) C dL_law_2292 (hN 6 (by decide)) rfl ?_
  refine s_aload_n C dL_law_2294 rfl 5 rfl ?_
  refine s_callM C R0 V (kX13_thrown (xl X) 0 (by decide)) mmX13_thrown miX13_thrown q2229 (rc26 (Nat.le_trans (by decide) V)) (by decide) rfl rfl rfl (Nat.le_of_ble_eq_true rfl) ⟨Nat.le_of_ble_eq_true rfl, Nat.le_of_ble_eq_true rfl, by omega, by omega⟩ dL_law_2295 (fun x6 μ5 => ?_)
  refine g_st (st' := [.int x6]) rfl ?_
  refine s_iload C dL_law_2298 1 rfl ?_
  refine s_icmp_eq (tgt := 2305) C dL_law_2300 (by decide) (fun c7 => ?_) (fun c7 => ?_)
  ·
    refine g_jn (P := fun j2322 => ∀ (μ8 : Mem), G X r0 (ca + 2) (sl + 12) μ8 2322 [(0, .ref bs), (1, .ref (xa X 0 0)), (2, .ref (xa X 26 0)), (3, .ref (xa X 31 0)), (4, .int i)] [] (j2322 μ8)) ?_ (fun j2322 hj2322 => ?_)
    · intro μ8
      refine s_goto (tgt := 2636) C dL_law_2322 (by decide) ?_
      exact g_endL (ca1 := ca + 2) (sl1 := sl + 12) (by omega) (by omega) [4, 0, 1, 2, 3] rfl H0
    refine s_iload C dL_law_2305 1 rfl ?_
    refine s_if_ne (tgt := 2322) C dL_law_2307 (by decide) (fun c9 => ?_) (fun c9 => ?_)
    ·
      exact g_wid (ca1 := ca + 2) (sl1 := sl + 12) (by omega) (by omega) <| g_sub [3, 4, 5, 6, 2] rfl (hj2322 μ5)
    ·
      refine s_aload_n C dL_law_2310 rfl 6 rfl ?_
      refine s_iconst (v := (0 : Int32)) C dL_law_2311 (by decide) ?_
      refine s_lald C (ag31 V) (by decide) dL_law_2312 ?_
      refine s_iload C dL_law_2313 0 rfl ?_
      refine s_i2l C dL_law_2315 ?_
      refine s_lcmp C dL_law_2316 ?_
      refine s_if_eq (tgt := 2322) C dL_law_2317 (by decide) (fun c10 => ?_) (fun c10 => ?_)
      ·
        exact g_wid (ca1 := ca + 2) (sl1 := sl + 12) (by omega) (by omega) <| g_sub [3, 4, 5, 6, 2] rfl (hj2322 μ5)
      ·
        refine s_iconst (v := (0 : Int32)) C dL_law_2320 (by decide) ?_
        exact g_none
  ·
    refine s_iconst (v := (0 : Int32)) C dL_law_2303 (by decide) ?_
    exact g_none

def lcs_36 (fu gu : Nat) (xs : Nat → Int32) (SL : Nat) (i : Int32) (μ : Mem) : Option Mem :=
  ckI (i + (1 : Int32)) SL <|
  bnd (fL_stuck fu 0 (xs (i + (1 : Int32)).toNatClampNeg) 0 μ) fun x2 μ1 =>
  ckI (i + (1 : Int32)) SL <|
  bndJ μ1 (fX13_stuck gu 0 (xs (i + (1 : Int32)).toNatClampNeg) (kJ μ μ1)) fun x4 μ3 =>
  bndJ μ3 (fX13_thrown 0 (kJ μ μ3)) fun x6 μ5 =>
  if x6 = x2 then (
    jn (fun (μ8 : Mem) =>
      some μ8
    ) fun j2378 =>
    if ¬ x2 = 0 then (
      j2378 μ5
    ) else (
      ckI (0 : Int32) (1) <|
      if (lg_cmp (μ5.2.2 31 0 (0 : Int32).toNatClampNeg) (x4.toInt64)) = 0 then (
        j2378 μ5
      ) else (
        none
      )
    )
  ) else (
    none
  )
set_option maxHeartbeats 4000000 in
set_option maxRecDepth 100000 in
theorem lcz_36 {X : CX} (hT : (xl X).stackTraces = false) (V : 2 ≤ xv X) (C : Ok X RL cL_law) (R0 : Rm X 2048 84000 601024 7293034) (hN : ∀ i : Nat, i < 8 → i < xn X) {bs SL : Nat} {xs : Nat → Int32} (S : Scr X bs SL xs) (fu gu : Nat) {ca sl : Nat} (hc : ca + 1 ≤ 601024) (hs : sl + 6 ≤ 7293034) (i : Int32) (μ r0 : Mem) (H0 : J X (ca + 1) (sl + 6) r0 2636 [(4, .int i), (0, .ref bs), (1, .ref (xa X 0 0)), (2, .ref (xa X 26 0)), (3, .ref (xa X 31 0))] []) : G X r0 ca sl μ 2325 [(4, .int i), (0, .ref bs), (1, .ref (xa X 0 0)), (2, .ref (xa X 26 0)), (3, .ref (xa X 31 0))] [] (lcs_36 fu gu xs SL i μ) := by
  unfold lcs_36
  refine s_aload_n C dL_law_2325 rfl 2 rfl ?_
  refine s_aload_n C dL_law_2326 rfl 1 rfl ?_
  refine s_iload C dL_law_2327 0 rfl ?_
  refine s_iconst (v := (1 : Int32)) C dL_law_2329 (by decide) ?_
  refine s_iadd C dL_law_2330 ?_
  refine s_sld C S dL_law_2331 ?_
  refine s_aload_n C dL_law_2332 rfl 4 rfl ?_
  refine s_callH (n := 3) C R0 (kL_stuck (xl X) hT fu 0 (by decide) (xs (i + (1 : Int32)).toNatClampNeg) 0 (by decide)) (Nat.le_trans (by decide) V) q154 q1677 ⟨by decide +kernel, by decide +kernel, by decide +kernel⟩ q1676 q1675 rfl rfl rfl (Nat.le_of_ble_eq_true rfl) ⟨Nat.le_of_ble_eq_true rfl, Nat.le_of_ble_eq_true rfl, by omega, by omega⟩ dL_law_2333 (fun x2 μ1 => ?_)
  refine g_st (st' := [.int x2]) rfl ?_
  refine s_istore (L' := [(5, .int x2), (4, .int i), (0, .ref bs), (1, .ref (xa X 0 0)), (2, .ref (xa X 26 0)), (3, .ref (xa X 31 0))]) C dL_law_2336 (hN 5 (by decide)) rfl ?_
  refine s_aload_n C dL_law_2338 rfl 4 rfl ?_
  refine s_aload_n C dL_law_2339 rfl 2 rfl ?_
  refine s_iload C dL_law_2340 1 rfl ?_
  refine s_iconst (v := (1 : Int32)) C dL_law_2342 (by decide) ?_
  refine s_iadd C dL_law_2343 ?_
  refine s_sld C S dL_law_2344 ?_
  refine s_callM C R0 V (kX13_stuck (xl X) gu 0 (by decide) (xs (i + (1 : Int32)).toNatClampNeg)) mmX13_stuck miX13_stuck q2595 (rc26 (Nat.le_trans (by decide) V)) (by decide) rfl rfl rfl (Nat.le_of_ble_eq_true rfl) ⟨Nat.le_of_ble_eq_true rfl, Nat.le_of_ble_eq_true rfl, by omega, by omega⟩ dL_law_2345 (fun x4 μ3 => ?_)
  refine g_st (st' := [.int x4]) rfl ?_
  refine s_istore (L' := [(6, .int x4), (5, .int x2), (4, .int i), (0, .ref bs), (1, .ref (xa X 0 0)), (2, .ref (xa X 26 0)), (3, .ref (xa X 31 0))]) C dL_law_2348 (hN 6 (by decide)) rfl ?_
  refine s_aload_n C dL_law_2350 rfl 5 rfl ?_
  refine s_callM C R0 V (kX13_thrown (xl X) 0 (by decide)) mmX13_thrown miX13_thrown q2229 (rc26 (Nat.le_trans (by decide) V)) (by decide) rfl rfl rfl (Nat.le_of_ble_eq_true rfl) ⟨Nat.le_of_ble_eq_true rfl, Nat.le_of_ble_eq_true rfl, by omega, by omega⟩ dL_law_2351 (fun x6 μ5 => ?_)
  refine g_st (st' := [.int x6]) rfl ?_
  refine s_iload C dL_law_2354 1 rfl ?_
  refine s_icmp_eq (tgt := 2361) C dL_law_2356 (by decide) (fun c7 => ?_) (fun c7 => ?_)
  ·
    refine g_jn (P := fun j2378 => ∀ (μ8 : Mem), G X r0 (ca + 1) (sl + 6) μ8 2378 [(0, .ref bs), (1, .ref (xa X 0 0)), (2, .ref (xa X 26 0)), (3, .ref (xa X 31 0)), (4, .int i)] [] (j2378 μ8)) ?_ (fun j2378 hj2378 => ?_)
    · intro μ8
      refine s_goto (tgt := 2636) C dL_law_2378 (by decide) ?_
      exact g_endL (ca1 := ca + 1) (sl1 := sl + 6) (by omega) (by omega) [4, 0, 1, 2, 3] rfl H0
    refine s_iload C dL_law_2361 1 rfl ?_
    refine s_if_ne (tgt := 2378) C dL_law_2363 (by decide) (fun c9 => ?_) (fun c9 => ?_)
    ·
      exact g_wid (ca1 := ca + 1) (sl1 := sl + 6) (by omega) (by omega) <| g_sub [3, 4, 5, 6, 2] rfl (hj2378 μ5)
    ·
      refine s_aload_n C dL_law_2366 rfl 6 rfl ?_
      refine s_iconst (v := (0 : Int32)) C dL_law_2367 (by decide) ?_
      refine s_lald C (ag31 V) (by decide) dL_law_2368 ?_
      refine s_iload C dL_law_2369 0 rfl ?_
      refine s_i2l C dL_law_2371 ?_
      refine s_lcmp C dL_law_2372 ?_
      refine s_if_eq (tgt := 2378) C dL_law_2373 (by decide) (fun c10 => ?_) (fun c10 => ?_)
      ·
        exact g_wid (ca1 := ca + 1) (sl1 := sl + 6) (by omega) (by omega) <| g_sub [3, 4, 5, 6, 2] rfl (hj2378 μ5)
      ·
        refine s_iconst (v := (0 : Int32)) C dL_law_2376 (by decide) ?_
        exact g_none
  ·
    refine s_iconst (v := (0 : Int32)) C dL_law_2359 (by decide) ?_
    exact g_none

def lcs_37 (fu gu : Nat) (xs : Nat → Int32) (SL : Nat) (i : Int32) (μ : Mem) : Option Mem :=
  ckI (i + (1 : Int32)) SL <|
  ckI (i + (2 : Int32)) SL <|
  bnd (fL_divider 0 (xs (i + (1 : Int32)).toNatClampNeg) (xs (i + (2 : Int32)).toNatClampNeg) 0 μ) fun x2 μ1 =>
  ckI (i + (1 : Int32)) SL <|
  ckI (i + (2 : Int32)) SL <|
  bndJ μ1 (fX13_divider 0 (xs (i + (1 : Int32)).toNatClampNeg) (xs (i + (2 : Int32)).toNatClampNeg) (kJ μ μ1)) fun x4 μ3 =>
  bndJ μ3 (fX13_thrown 0 (kJ μ μ3)) fun x6 μ5 =>
  if x6 = x2 then (
    jn (fun (μ8 : Mem) =>
      some μ8
    ) fun j2446 =>
    if ¬ x2 = 0 then (
      j2446 μ5
    ) else (
      ckI (0 : Int32) (1) <|
      if (lg_cmp (μ5.2.2 31 0 (0 : Int32).toNatClampNeg) (x4.toInt64)) = 0 then (
        j2446 μ5
      ) else (
        none
      )
    )
  ) else (
    none
  )
set_option maxHeartbeats 4000000 in
set_option maxRecDepth 100000 in
theorem lcz_37 {X : CX} (hT : (xl X).stackTraces = false) (V : 2 ≤ xv X) (C : Ok X RL cL_law) (R0 : Rm X 2048 84000 601024 7293034) (hN : ∀ i : Nat, i < 8 → i < xn X) {bs SL : Nat} {xs : Nat → Int32} (S : Scr X bs SL xs) (fu gu : Nat) {ca sl : Nat} (hc : ca + 1 ≤ 601024) (hs : sl + 6 ≤ 7293034) (i : Int32) (μ r0 : Mem) (H0 : J X (ca + 1) (sl + 6) r0 2636 [(4, .int i), (0, .ref bs), (1, .ref (xa X 0 0)), (2, .ref (xa X 26 0)), (3, .ref (xa X 31 0))] []) : G X r0 ca sl μ 2381 [(4, .int i), (0, .ref bs), (1, .ref (xa X 0 0)), (2, .ref (xa X 26 0)), (3, .ref (xa X 31 0))] [] (lcs_37 fu gu xs SL i μ) := by
  unfold lcs_37
  refine s_aload_n C dL_law_2381 rfl 2 rfl ?_
  refine s_aload_n C dL_law_2382 rfl 1 rfl ?_
  refine s_iload C dL_law_2383 0 rfl ?_
  refine s_iconst (v := (1 : Int32)) C dL_law_2385 (by decide) ?_
  refine s_iadd C dL_law_2386 ?_
  refine s_sld C S dL_law_2387 ?_
  refine s_aload_n C dL_law_2388 rfl 1 rfl ?_
  refine s_iload C dL_law_2389 0 rfl ?_
  refine s_iconst (v := (2 : Int32)) C dL_law_2391 (by decide) ?_
  refine s_iadd C dL_law_2392 ?_
  refine s_sld C S dL_law_2393 ?_
  refine s_aload_n C dL_law_2394 rfl 4 rfl ?_
  refine s_callH (n := 4) C R0 (kL_divider (xl X) hT 0 (by decide) (xs (i + (1 : Int32)).toNatClampNeg) (xs (i + (2 : Int32)).toNatClampNeg) 0 (by decide)) (Nat.le_trans (by decide) V) q154 q1688 ⟨by decide +kernel, by decide +kernel, by decide +kernel⟩ q1687 q1686 rfl rfl rfl (Nat.le_of_ble_eq_true rfl) ⟨Nat.le_of_ble_eq_true rfl, Nat.le_of_ble_eq_true rfl, by omega, by omega⟩ dL_law_2395 (fun x2 μ1 => ?_)
  refine g_st (st' := [.int x2]) rfl ?_
  refine s_istore (L' := [(5, .int x2), (4, .int i), (0, .ref bs), (1, .ref (xa X 0 0)), (2, .ref (xa X 26 0)), (3, .ref (xa X 31 0))]) C dL_law_2398 (hN 5 (by decide)) rfl ?_
  refine s_aload_n C dL_law_2400 rfl 4 rfl ?_
  refine s_aload_n C dL_law_2401 rfl 2 rfl ?_
  refine s_iload C dL_law_2402 1 rfl ?_
  refine s_iconst (v := (1 : Int32)) C dL_law_2404 (by decide) ?_
  refine s_iadd C dL_law_2405 ?_
  refine s_sld C S dL_law_2406 ?_
  refine s_aload_n C dL_law_2407 rfl 2 rfl ?_
  refine s_iload C dL_law_2408 1 rfl ?_
  refine s_iconst (v := (2 : Int32)) C dL_law_2410 (by decide) ?_
  refine s_iadd C dL_law_2411 ?_
  refine s_sld C S dL_law_2412 ?_
  refine s_callM C R0 V (kX13_divider (xl X) 0 (by decide) (xs (i + (1 : Int32)).toNatClampNeg) (xs (i + (2 : Int32)).toNatClampNeg)) mmX13_divider miX13_divider q2599 (rc26 (Nat.le_trans (by decide) V)) (by decide) rfl rfl rfl (Nat.le_of_ble_eq_true rfl) ⟨Nat.le_of_ble_eq_true rfl, Nat.le_of_ble_eq_true rfl, by omega, by omega⟩ dL_law_2413 (fun x4 μ3 => ?_)
  refine g_st (st' := [.int x4]) rfl ?_
  refine s_istore (L' := [(6, .int x4), (5, .int x2), (4, .int i), (0, .ref bs), (1, .ref (xa X 0 0)), (2, .ref (xa X 26 0)), (3, .ref (xa X 31 0))]) C dL_law_2416 (hN 6 (by decide)) rfl ?_
  refine s_aload_n C dL_law_2418 rfl 5 rfl ?_
  refine s_callM C R0 V (kX13_thrown (xl X) 0 (by decide)) mmX13_thrown miX13_thrown q2229 (rc26 (Nat.le_trans (by decide) V)) (by decide) rfl rfl rfl (Nat.le_of_ble_eq_true rfl) ⟨Nat.le_of_ble_eq_true rfl, Nat.le_of_ble_eq_true rfl, by omega, by omega⟩ dL_law_2419 (fun x6 μ5 => ?_)
  refine g_st (st' := [.int x6]) rfl ?_
  refine s_iload C dL_law_2422 1 rfl ?_
  refine s_icmp_eq (tgt := 2429) C dL_law_2424 (by decide) (fun c7 => ?_) (fun c7 => ?_)
  ·
    refine g_jn (P := fun j2446 => ∀ (μ8 : Mem), G X r0 (ca + 1) (sl + 6) μ8 2446 [(0, .ref bs), (1, .ref (xa X 0 0)), (2, .ref (xa X 26 0)), (3, .ref (xa X 31 0)), (4, .int i)] [] (j2446 μ8)) ?_ (fun j2446 hj2446 => ?_)
    · intro μ8
      refine s_goto (tgt := 2636) C dL_law_2446 (by decide) ?_
      exact g_endL (ca1 := ca + 1) (sl1 := sl + 6) (by omega) (by omega) [4, 0, 1, 2, 3] rfl H0
    refine s_iload C dL_law_2429 1 rfl ?_
    refine s_if_ne (tgt := 2446) C dL_law_2431 (by decide) (fun c9 => ?_) (fun c9 => ?_)
    ·
      exact g_wid (ca1 := ca + 1) (sl1 := sl + 6) (by omega) (by omega) <| g_sub [3, 4, 5, 6, 2] rfl (hj2446 μ5)
    ·
      refine s_aload_n C dL_law_2434 rfl 6 rfl ?_
      refine s_iconst (v := (0 : Int32)) C dL_law_2435 (by decide) ?_
      refine s_lald C (ag31 V) (by decide) dL_law_2436 ?_
      refine s_iload C dL_law_2437 0 rfl ?_
      refine s_i2l C dL_law_2439 ?_
      refine s_lcmp C dL_law_2440 ?_
      refine s_if_eq (tgt := 2446) C dL_law_2441 (by decide) (fun c10 => ?_) (fun c10 => ?_)
      ·
        exact g_wid (ca1 := ca + 1) (sl1 := sl + 6) (by omega) (by omega) <| g_sub [3, 4, 5, 6, 2] rfl (hj2446 μ5)
      ·
        refine s_iconst (v := (0 : Int32)) C dL_law_2444 (by decide) ?_
        exact g_none
  ·
    refine s_iconst (v := (0 : Int32)) C dL_law_2427 (by decide) ?_
    exact g_none

def lcs_40 (fu gu : Nat) (xs : Nat → Int32) (SL : Nat) (i : Int32) (μ : Mem) : Option Mem :=
  bnd (fX12_undoCount 0 μ) fun x2 μ1 =>
  bndJ μ1 (fX13_undoCount 0 (kJ μ μ1)) fun x4 μ3 =>
  if x2 = x4 then (
    some μ3
  ) else (
    none
  )
set_option maxHeartbeats 4000000 in
set_option maxRecDepth 100000 in
theorem lcz_40 {X : CX} (hT : (xl X).stackTraces = false) (V : 2 ≤ xv X) (C : Ok X RL cL_law) (R0 : Rm X 2048 84000 601024 7293034) (hN : ∀ i : Nat, i < 8 → i < xn X) {bs SL : Nat} {xs : Nat → Int32} (S : Scr X bs SL xs) (fu gu : Nat) {ca sl : Nat} (hc : ca + 0 ≤ 601024) (hs : sl + 0 ≤ 7293034) (i : Int32) (μ r0 : Mem) (H0 : J X (ca + 0) (sl + 0) r0 2636 [(4, .int i), (0, .ref bs), (1, .ref (xa X 0 0)), (2, .ref (xa X 26 0)), (3, .ref (xa X 31 0))] []) : G X r0 ca sl μ 2530 [(4, .int i), (0, .ref bs), (1, .ref (xa X 0 0)), (2, .ref (xa X 26 0)), (3, .ref (xa X 31 0))] [] (lcs_40 fu gu xs SL i μ) := by
  unfold lcs_40
  refine s_aload_n C dL_law_2530 rfl 2 rfl ?_
  refine s_callV C R0 (kX12_undoCount (xl X) 0 (by decide)) (Nat.le_trans (by decide) V) mmX12_undoCount miX12_undoCount q862 (rc0 _) (by decide) rfl rfl rfl (Nat.le_of_ble_eq_true rfl) ⟨Nat.le_of_ble_eq_true rfl, Nat.le_of_ble_eq_true rfl, by omega, by omega⟩ dL_law_2531 (fun x2 μ1 => ?_)
  refine g_st (st' := [.int x2]) rfl ?_
  refine s_aload_n C dL_law_2534 rfl 3 rfl ?_
  refine s_callM C R0 V (kX13_undoCount (xl X) 0 (by decide)) mmX13_undoCount miX13_undoCount q2614 (rc26 (Nat.le_trans (by decide) V)) (by decide) rfl rfl rfl (Nat.le_of_ble_eq_true rfl) ⟨Nat.le_of_ble_eq_true rfl, Nat.le_of_ble_eq_true rfl, by omega, by omega⟩ dL_law_2535 (fun x4 μ3 => ?_)
  refine g_st (st' := [.int x4, .int x2]) rfl ?_
  refine s_icmp_eq (tgt := 2636) C dL_law_2538 (by decide) (fun c5 => ?_) (fun c5 => ?_)
  ·
    exact g_endL (ca1 := ca + 0) (sl1 := sl + 0) (by omega) (by omega) [0, 1, 2, 3, 4] rfl H0
  ·
    refine s_iconst (v := (0 : Int32)) C dL_law_2541 (by decide) ?_
    exact g_none

def lcs_41 (fu gu : Nat) (xs : Nat → Int32) (SL : Nat) (i : Int32) (μ : Mem) : Option Mem :=
  bnd (fX12_undo fu 0 μ) fun x2 μ1 =>
  bndJ μ1 (fX13_undo gu 0 (kJ μ μ1)) fun x4 μ3 =>
  if x2 = x4 then (
    some μ3
  ) else (
    none
  )
set_option maxHeartbeats 4000000 in
set_option maxRecDepth 100000 in
theorem lcz_41 {X : CX} (hT : (xl X).stackTraces = false) (V : 2 ≤ xv X) (C : Ok X RL cL_law) (R0 : Rm X 2048 84000 601024 7293034) (hN : ∀ i : Nat, i < 8 → i < xn X) {bs SL : Nat} {xs : Nat → Int32} (S : Scr X bs SL xs) (fu gu : Nat) {ca sl : Nat} (hc : ca + 0 ≤ 601024) (hs : sl + 0 ≤ 7293034) (i : Int32) (μ r0 : Mem) (H0 : J X (ca + 0) (sl + 0) r0 2636 [(4, .int i), (0, .ref bs), (1, .ref (xa X 0 0)), (2, .ref (xa X 26 0)), (3, .ref (xa X 31 0))] []) : G X r0 ca sl μ 2543 [(4, .int i), (0, .ref bs), (1, .ref (xa X 0 0)), (2, .ref (xa X 26 0)), (3, .ref (xa X 31 0))] [] (lcs_41 fu gu xs SL i μ) := by
  unfold lcs_41
  refine s_aload_n C dL_law_2543 rfl 2 rfl ?_
  refine s_callV C R0 (kX12_undo (xl X) fu 0 (by decide)) (Nat.le_trans (by decide) V) mmX12_undo miX12_undo q866 (rc0 _) (by decide) rfl rfl rfl (Nat.le_of_ble_eq_true rfl) ⟨Nat.le_of_ble_eq_true rfl, Nat.le_of_ble_eq_true rfl, by omega, by omega⟩ dL_law_2544 (fun x2 μ1 => ?_)
  refine g_st (st' := [.int x2]) rfl ?_
  refine s_aload_n C dL_law_2547 rfl 3 rfl ?_
  refine s_callM C R0 V (kX13_undo (xl X) gu 0 (by decide)) mmX13_undo miX13_undo q2618 (rc26 (Nat.le_trans (by decide) V)) (by decide) rfl rfl rfl (Nat.le_of_ble_eq_true rfl) ⟨Nat.le_of_ble_eq_true rfl, Nat.le_of_ble_eq_true rfl, by omega, by omega⟩ dL_law_2548 (fun x4 μ3 => ?_)
  refine g_st (st' := [.int x4, .int x2]) rfl ?_
  refine s_icmp_eq (tgt := 2636) C dL_law_2551 (by decide) (fun c5 => ?_) (fun c5 => ?_)
  ·
    exact g_endL (ca1 := ca + 0) (sl1 := sl + 0) (by omega) (by omega) [0, 1, 2, 3, 4] rfl H0
  ·
    refine s_iconst (v := (0 : Int32)) C dL_law_2554 (by decide) ?_
    exact g_none

def lcs_42 (fu gu : Nat) (xs : Nat → Int32) (SL : Nat) (i : Int32) (μ : Mem) : Option Mem :=
  bnd (fX12_saveSnapshot fu 0 μ) fun _ μ1 =>
  bndJ μ1 (fX13_saveSnapshot gu 0 (kJ μ μ1)) fun _ μ2 =>
  some μ2
set_option maxHeartbeats 4000000 in
set_option maxRecDepth 100000 in
theorem lcz_42 {X : CX} (hT : (xl X).stackTraces = false) (V : 2 ≤ xv X) (C : Ok X RL cL_law) (R0 : Rm X 2048 84000 601024 7293034) (hN : ∀ i : Nat, i < 8 → i < xn X) {bs SL : Nat} {xs : Nat → Int32} (S : Scr X bs SL xs) (fu gu : Nat) {ca sl : Nat} (hc : ca + 0 ≤ 601024) (hs : sl + 0 ≤ 7293034) (i : Int32) (μ r0 : Mem) (H0 : J X (ca + 0) (sl + 0) r0 2636 [(4, .int i), (0, .ref bs), (1, .ref (xa X 0 0)), (2, .ref (xa X 26 0)), (3, .ref (xa X 31 0))] []) : G X r0 ca sl μ 2556 [(4, .int i), (0, .ref bs), (1, .ref (xa X 0 0)), (2, .ref (xa X 26 0)), (3, .ref (xa X 31 0))] [] (lcs_42 fu gu xs SL i μ) := by
  unfold lcs_42
  refine s_aload_n C dL_law_2556 rfl 2 rfl ?_
  refine s_callV C R0 (kX12_saveSnapshot (xl X) fu 0 (by decide)) (Nat.le_trans (by decide) V) mmX12_saveSnapshot miX12_saveSnapshot q887 (rc0 _) (by decide) rfl rfl rfl (Nat.le_of_ble_eq_true rfl) ⟨Nat.le_of_ble_eq_true rfl, Nat.le_of_ble_eq_true rfl, by omega, by omega⟩ dL_law_2557 (fun _ μ1 => ?_)
  refine g_st (st' := []) rfl ?_
  refine s_aload_n C dL_law_2560 rfl 3 rfl ?_
  refine s_callM C R0 V (kX13_saveSnapshot (xl X) gu 0 (by decide)) mmX13_saveSnapshot miX13_saveSnapshot q2622 (rc26 (Nat.le_trans (by decide) V)) (by decide) rfl rfl rfl (Nat.le_of_ble_eq_true rfl) ⟨Nat.le_of_ble_eq_true rfl, Nat.le_of_ble_eq_true rfl, by omega, by omega⟩ dL_law_2561 (fun _ μ2 => ?_)
  refine g_st (st' := []) rfl ?_
  refine s_goto (tgt := 2636) C dL_law_2564 (by decide) ?_
  exact g_endL (ca1 := ca + 0) (sl1 := sl + 0) (by omega) (by omega) [0, 1, 2, 3, 4] rfl H0

def lcs_43 (fu gu : Nat) (xs : Nat → Int32) (SL : Nat) (i : Int32) (μ : Mem) : Option Mem :=
  bnd (fX12_restoreSnapshot fu 0 μ) fun x2 μ1 =>
  bndJ μ1 (fX13_restoreSnapshot gu 0 (kJ μ μ1)) fun x4 μ3 =>
  if x2 = x4 then (
    some μ3
  ) else (
    none
  )
set_option maxHeartbeats 4000000 in
set_option maxRecDepth 100000 in
theorem lcz_43 {X : CX} (hT : (xl X).stackTraces = false) (V : 2 ≤ xv X) (C : Ok X RL cL_law) (R0 : Rm X 2048 84000 601024 7293034) (hN : ∀ i : Nat, i < 8 → i < xn X) {bs SL : Nat} {xs : Nat → Int32} (S : Scr X bs SL xs) (fu gu : Nat) {ca sl : Nat} (hc : ca + 0 ≤ 601024) (hs : sl + 0 ≤ 7293034) (i : Int32) (μ r0 : Mem) (H0 : J X (ca + 0) (sl + 0) r0 2636 [(4, .int i), (0, .ref bs), (1, .ref (xa X 0 0)), (2, .ref (xa X 26 0)), (3, .ref (xa X 31 0))] []) : G X r0 ca sl μ 2567 [(4, .int i), (0, .ref bs), (1, .ref (xa X 0 0)), (2, .ref (xa X 26 0)), (3, .ref (xa X 31 0))] [] (lcs_43 fu gu xs SL i μ) := by
  unfold lcs_43
  refine s_aload_n C dL_law_2567 rfl 2 rfl ?_
  refine s_callV C R0 (kX12_restoreSnapshot (xl X) fu 0 (by decide)) (Nat.le_trans (by decide) V) mmX12_restoreSnapshot miX12_restoreSnapshot q891 (rc0 _) (by decide) rfl rfl rfl (Nat.le_of_ble_eq_true rfl) ⟨Nat.le_of_ble_eq_true rfl, Nat.le_of_ble_eq_true rfl, by omega, by omega⟩ dL_law_2568 (fun x2 μ1 => ?_)
  refine g_st (st' := [.int x2]) rfl ?_
  refine s_aload_n C dL_law_2571 rfl 3 rfl ?_
  refine s_callM C R0 V (kX13_restoreSnapshot (xl X) gu 0 (by decide)) mmX13_restoreSnapshot miX13_restoreSnapshot q2626 (rc26 (Nat.le_trans (by decide) V)) (by decide) rfl rfl rfl (Nat.le_of_ble_eq_true rfl) ⟨Nat.le_of_ble_eq_true rfl, Nat.le_of_ble_eq_true rfl, by omega, by omega⟩ dL_law_2572 (fun x4 μ3 => ?_)
  refine g_st (st' := [.int x4, .int x2]) rfl ?_
  refine s_icmp_eq (tgt := 2636) C dL_law_2575 (by decide) (fun c5 => ?_) (fun c5 => ?_)
  ·
    exact g_endL (ca1 := ca + 0) (sl1 := sl + 0) (by omega) (by omega) [0, 1, 2, 3, 4] rfl H0
  ·
    refine s_iconst (v := (0 : Int32)) C dL_law_2578 (by decide) ?_
    exact g_none

def lcs_44 (fu gu : Nat) (xs : Nat → Int32) (SL : Nat) (i : Int32) (μ : Mem) : Option Mem :=
  ckI (i + (1 : Int32)) SL <|
  bnd (fL_query fu 0 (xs (i + (1 : Int32)).toNatClampNeg) 0 μ) fun x2 μ1 =>
  ckI (i + (1 : Int32)) SL <|
  bndJ μ1 (fX13_query gu 0 (xs (i + (1 : Int32)).toNatClampNeg) (kJ μ μ1)) fun x4 μ3 =>
  bndJ μ3 (fX13_thrown 0 (kJ μ μ3)) fun x6 μ5 =>
  if x6 = x2 then (
    jn (fun (μ8 : Mem) =>
      some μ8
    ) fun j2633 =>
    if ¬ x2 = 0 then (
      j2633 μ5
    ) else (
      ckI (0 : Int32) (1) <|
      if (lg_cmp (μ5.2.2 31 0 (0 : Int32).toNatClampNeg) (x4.toInt64)) = 0 then (
        j2633 μ5
      ) else (
        none
      )
    )
  ) else (
    none
  )
set_option maxHeartbeats 4000000 in
set_option maxRecDepth 100000 in
theorem lcz_44 {X : CX} (hT : (xl X).stackTraces = false) (V : 2 ≤ xv X) (C : Ok X RL cL_law) (R0 : Rm X 2048 84000 601024 7293034) (hN : ∀ i : Nat, i < 8 → i < xn X) {bs SL : Nat} {xs : Nat → Int32} (S : Scr X bs SL xs) (fu gu : Nat) {ca sl : Nat} (hc : ca + 1 ≤ 601024) (hs : sl + 6 ≤ 7293034) (i : Int32) (μ r0 : Mem) (H0 : J X (ca + 1) (sl + 6) r0 2636 [(4, .int i), (0, .ref bs), (1, .ref (xa X 0 0)), (2, .ref (xa X 26 0)), (3, .ref (xa X 31 0))] []) : G X r0 ca sl μ 2580 [(4, .int i), (0, .ref bs), (1, .ref (xa X 0 0)), (2, .ref (xa X 26 0)), (3, .ref (xa X 31 0))] [] (lcs_44 fu gu xs SL i μ) := by
  unfold lcs_44
  refine s_aload_n C dL_law_2580 rfl 2 rfl ?_
  refine s_aload_n C dL_law_2581 rfl 1 rfl ?_
  refine s_iload C dL_law_2582 0 rfl ?_
  refine s_iconst (v := (1 : Int32)) C dL_law_2584 (by decide) ?_
  refine s_iadd C dL_law_2585 ?_
  refine s_sld C S dL_law_2586 ?_
  refine s_aload_n C dL_law_2587 rfl 4 rfl ?_
  refine s_callH (n := 3) C R0 (kL_query (xl X) hT fu 0 (by decide) (xs (i + (1 : Int32)).toNatClampNeg) 0 (by decide)) (Nat.le_trans (by decide) V) q154 q1940 ⟨by decide +kernel, by decide +kernel, by decide +kernel⟩ q1939 q1938 rfl rfl rfl (Nat.le_of_ble_eq_true rfl) ⟨Nat.le_of_ble_eq_true rfl, Nat.le_of_ble_eq_true rfl, by omega, by omega⟩ dL_law_2588 (fun x2 μ1 => ?_)
  refine g_st (st' := [.int x2]) rfl ?_
  refine s_istore (L' := [(5, .int x2), (4, .int i), (0, .ref bs), (1, .ref (xa X 0 0)), (2, .ref (xa X 26 0)), (3, .ref (xa X 31 0))]) C dL_law_2591 (hN 5 (by decide)) rfl ?_
  refine s_aload_n C dL_law_2593 rfl 4 rfl ?_
  refine s_aload_n C dL_law_2594 rfl 2 rfl ?_
  refine s_iload C dL_law_2595 1 rfl ?_
  refine s_iconst (v := (1 : Int32)) C dL_law_2597 (by decide) ?_
  refine s_iadd C dL_law_2598 ?_
  refine s_sld C S dL_law_2599 ?_
  refine s_callM C R0 V (kX13_query (xl X) gu 0 (by decide) (xs (i + (1 : Int32)).toNatClampNeg)) mmX13_query miX13_query q2840 (rc26 (Nat.le_trans (by decide) V)) (by decide) rfl rfl rfl (Nat.le_of_ble_eq_true rfl) ⟨Nat.le_of_ble_eq_true rfl, Nat.le_of_ble_eq_true rfl, by omega, by omega⟩ dL_law_2600 (fun x4 μ3 => ?_)
  refine g_st (st' := [.int x4]) rfl ?_
  refine s_istore (L' := [(6, .int x4), (5, .int x2), (4, .int i), (0, .ref bs), (1, .ref (xa X 0 0)), (2, .ref (xa X 26 0)), (3, .ref (xa X 31 0))]) C dL_law_2603 (hN 6 (by decide)) rfl ?_
  refine s_aload_n C dL_law_2605 rfl 5 rfl ?_
  refine s_callM C R0 V (kX13_thrown (xl X) 0 (by decide)) mmX13_thrown miX13_thrown q2229 (rc26 (Nat.le_trans (by decide) V)) (by decide) rfl rfl rfl (Nat.le_of_ble_eq_true rfl) ⟨Nat.le_of_ble_eq_true rfl, Nat.le_of_ble_eq_true rfl, by omega, by omega⟩ dL_law_2606 (fun x6 μ5 => ?_)
  refine g_st (st' := [.int x6]) rfl ?_
  refine s_iload C dL_law_2609 1 rfl ?_
  refine s_icmp_eq (tgt := 2616) C dL_law_2611 (by decide) (fun c7 => ?_) (fun c7 => ?_)
  ·
    refine g_jn (P := fun j2633 => ∀ (μ8 : Mem), G X r0 (ca + 1) (sl + 6) μ8 2633 [(0, .ref bs), (1, .ref (xa X 0 0)), (2, .ref (xa X 26 0)), (3, .ref (xa X 31 0)), (4, .int i)] [] (j2633 μ8)) ?_ (fun j2633 hj2633 => ?_)
    · intro μ8
      refine s_goto (tgt := 2636) C dL_law_2633 (by decide) ?_
      exact g_endL (ca1 := ca + 1) (sl1 := sl + 6) (by omega) (by omega) [4, 0, 1, 2, 3] rfl H0
    refine s_iload C dL_law_2616 1 rfl ?_
    refine s_if_ne (tgt := 2633) C dL_law_2618 (by decide) (fun c9 => ?_) (fun c9 => ?_)
    ·
      exact g_wid (ca1 := ca + 1) (sl1 := sl + 6) (by omega) (by omega) <| g_sub [3, 4, 5, 6, 2] rfl (hj2633 μ5)
    ·
      refine s_aload_n C dL_law_2621 rfl 6 rfl ?_
      refine s_iconst (v := (0 : Int32)) C dL_law_2622 (by decide) ?_
      refine s_lald C (ag31 V) (by decide) dL_law_2623 ?_
      refine s_iload C dL_law_2624 0 rfl ?_
      refine s_i2l C dL_law_2626 ?_
      refine s_lcmp C dL_law_2627 ?_
      refine s_if_eq (tgt := 2633) C dL_law_2628 (by decide) (fun c10 => ?_) (fun c10 => ?_)
      ·
        exact g_wid (ca1 := ca + 1) (sl1 := sl + 6) (by omega) (by omega) <| g_sub [3, 4, 5, 6, 2] rfl (hj2633 μ5)
      ·
        refine s_iconst (v := (0 : Int32)) C dL_law_2631 (by decide) ?_
        exact g_none
  ·
    refine s_iconst (v := (0 : Int32)) C dL_law_2614 (by decide) ?_
    exact g_none

