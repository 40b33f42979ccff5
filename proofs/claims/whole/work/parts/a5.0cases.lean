/-! the law's cases -/
def lcs_0 (fu gu : Nat) (xs : Nat → Int32) (SL : Nat) (i : Int32) (μ : Mem) : Option Mem :=
  ckI (i + (1 : Int32)) SL <|
  ckI (i + (2 : Int32)) SL <|
  ckI (i + (3 : Int32)) SL <|
  ckI (i + (4 : Int32)) SL <|
  ckI (i + (5 : Int32)) SL <|
  bnd (fX12_feed fu 0 (xs (i + (1 : Int32)).toNatClampNeg) (xs (i + (2 : Int32)).toNatClampNeg) (xs (i + (3 : Int32)).toNatClampNeg) (xs (i + (4 : Int32)).toNatClampNeg) (xs (i + (5 : Int32)).toNatClampNeg) μ) fun x2 μ1 =>
  ckI (i + (1 : Int32)) SL <|
  ckI (i + (2 : Int32)) SL <|
  ckI (i + (3 : Int32)) SL <|
  ckI (i + (4 : Int32)) SL <|
  ckI (i + (5 : Int32)) SL <|
  bndJ μ1 (fX13_feed gu 0 (xs (i + (1 : Int32)).toNatClampNeg) (xs (i + (2 : Int32)).toNatClampNeg) (xs (i + (3 : Int32)).toNatClampNeg) (xs (i + (4 : Int32)).toNatClampNeg) (xs (i + (5 : Int32)).toNatClampNeg) (kJ μ μ1)) fun x4 μ3 =>
  if x2 = x4 then (
    some μ3
  ) else (
    none
  )
set_option maxHeartbeats 4000000 in
set_option maxRecDepth 100000 in
theorem lcz_0 {X : CX} (hT : (xl X).stackTraces = false) (V : 2 ≤ xv X) (C : Ok X RL cL_law) (R0 : Rm X 2048 84000 601024 7293034) (hN : ∀ i : Nat, i < 8 → i < xn X) {bs SL : Nat} {xs : Nat → Int32} (S : Scr X bs SL xs) (fu gu : Nat) {ca sl : Nat} (hc : ca + 0 ≤ 601024) (hs : sl + 0 ≤ 7293034) (i : Int32) (μ r0 : Mem) (H0 : J X (ca + 0) (sl + 0) r0 2636 [(4, .int i), (0, .ref bs), (1, .ref (xa X 0 0)), (2, .ref (xa X 26 0)), (3, .ref (xa X 31 0))] []) : G X r0 ca sl μ 236 [(4, .int i), (0, .ref bs), (1, .ref (xa X 0 0)), (2, .ref (xa X 26 0)), (3, .ref (xa X 31 0))] [] (lcs_0 fu gu xs SL i μ) := by
  unfold lcs_0
  refine s_aload_n C dL_law_236 rfl 2 rfl ?_
  refine s_aload_n C dL_law_237 rfl 1 rfl ?_
  refine s_iload C dL_law_238 0 rfl ?_
  refine s_iconst (v := (1 : Int32)) C dL_law_240 (by decide) ?_
  refine s_iadd C dL_law_241 ?_
  refine s_sld C S dL_law_242 ?_
  refine s_aload_n C dL_law_243 rfl 1 rfl ?_
  refine s_iload C dL_law_244 0 rfl ?_
  refine s_iconst (v := (2 : Int32)) C dL_law_246 (by decide) ?_
  refine s_iadd C dL_law_247 ?_
  refine s_sld C S dL_law_248 ?_
  refine s_aload_n C dL_law_249 rfl 1 rfl ?_
  refine s_iload C dL_law_250 0 rfl ?_
  refine s_iconst (v := (3 : Int32)) C dL_law_252 (by decide) ?_
  refine s_iadd C dL_law_253 ?_
  refine s_sld C S dL_law_254 ?_
  refine s_aload_n C dL_law_255 rfl 1 rfl ?_
  refine s_iload C dL_law_256 0 rfl ?_
  refine s_iconst (v := (4 : Int32)) C dL_law_258 (by decide) ?_
  refine s_iadd C dL_law_259 ?_
  refine s_sld C S dL_law_260 ?_
  refine s_aload_n C dL_law_261 rfl 1 rfl ?_
  refine s_iload C dL_law_262 0 rfl ?_
  refine s_iconst (v := (5 : Int32)) C dL_law_264 (by decide) ?_
  refine s_iadd C dL_law_265 ?_
  refine s_sld C S dL_law_266 ?_
  refine s_callV C R0 (kX12_feed (xl X) fu 0 (by decide) (xs (i + (1 : Int32)).toNatClampNeg) (xs (i + (2 : Int32)).toNatClampNeg) (xs (i + (3 : Int32)).toNatClampNeg) (xs (i + (4 : Int32)).toNatClampNeg) (xs (i + (5 : Int32)).toNatClampNeg)) (Nat.le_trans (by decide) V) mmX12_feed miX12_feed q791 (rc0 _) (by decide) rfl rfl rfl (Nat.le_of_ble_eq_true rfl) ⟨Nat.le_of_ble_eq_true rfl, Nat.le_of_ble_eq_true rfl, by omega, by omega⟩ dL_law_267 (fun x2 μ1 => ?_)
  refine g_st (st' := [.int x2]) rfl ?_
  refine s_aload_n C dL_law_270 rfl 3 rfl ?_
  refine s_aload_n C dL_law_271 rfl 1 rfl ?_
  refine s_iload C dL_law_272 0 rfl ?_
  refine s_iconst (v := (1 : Int32)) C dL_law_274 (by decide) ?_
  refine s_iadd C dL_law_275 ?_
  refine s_sld C S dL_law_276 ?_
  refine s_aload_n C dL_law_277 rfl 1 rfl ?_
  refine s_iload C dL_law_278 0 rfl ?_
  refine s_iconst (v := (2 : Int32)) C dL_law_280 (by decide) ?_
  refine s_iadd C dL_law_281 ?_
  refine s_sld C S dL_law_282 ?_
  refine s_aload_n C dL_law_283 rfl 1 rfl ?_
  refine s_iload C dL_law_284 0 rfl ?_
  refine s_iconst (v := (3 : Int32)) C dL_law_286 (by decide) ?_
  refine s_iadd C dL_law_287 ?_
  refine s_sld C S dL_law_288 ?_
  refine s_aload_n C dL_law_289 rfl 1 rfl ?_
  refine s_iload C dL_law_290 0 rfl ?_
  refine s_iconst (v := (4 : Int32)) C dL_law_292 (by decide) ?_
  refine s_iadd C dL_law_293 ?_
  refine s_sld C S dL_law_294 ?_
  refine s_aload_n C dL_law_295 rfl 1 rfl ?_
  refine s_iload C dL_law_296 0 rfl ?_
  refine s_iconst (v := (5 : Int32)) C dL_law_298 (by decide) ?_
  refine s_iadd C dL_law_299 ?_
  refine s_sld C S dL_law_300 ?_
  refine s_callM C R0 V (kX13_feed (xl X) gu 0 (by decide) (xs (i + (1 : Int32)).toNatClampNeg) (xs (i + (2 : Int32)).toNatClampNeg) (xs (i + (3 : Int32)).toNatClampNeg) (xs (i + (4 : Int32)).toNatClampNeg) (xs (i + (5 : Int32)).toNatClampNeg)) mmX13_feed miX13_feed q2630 (rc26 (Nat.le_trans (by decide) V)) (by decide) rfl rfl rfl (Nat.le_of_ble_eq_true rfl) ⟨Nat.le_of_ble_eq_true rfl, Nat.le_of_ble_eq_true rfl, by omega, by omega⟩ dL_law_301 (fun x4 μ3 => ?_)
  refine g_st (st' := [.int x4, .int x2]) rfl ?_
  refine s_icmp_eq (tgt := 2636) C dL_law_304 (by decide) (fun c5 => ?_) (fun c5 => ?_)
  ·
    exact g_endL (ca1 := ca + 0) (sl1 := sl + 0) (by omega) (by omega) [0, 1, 2, 3, 4] rfl H0
  ·
    refine s_iconst (v := (0 : Int32)) C dL_law_307 (by decide) ?_
    exact g_none

def lcs_1 (fu gu : Nat) (xs : Nat → Int32) (SL : Nat) (i : Int32) (μ : Mem) : Option Mem :=
  ckI (i + (1 : Int32)) SL <|
  bnd (fL_load fu 0 (xs (i + (1 : Int32)).toNatClampNeg) 0 μ) fun x2 μ1 =>
  ckI (i + (1 : Int32)) SL <|
  bndJ μ1 (fX13_load gu 0 (xs (i + (1 : Int32)).toNatClampNeg) (kJ μ μ1)) fun x4 μ3 =>
  bndJ μ3 (fX13_thrown 0 (kJ μ μ3)) fun x6 μ5 =>
  if x6 = x2 then (
    jn (fun (μ8 : Mem) =>
      some μ8
    ) fun j362 =>
    if ¬ x2 = 0 then (
      j362 μ5
    ) else (
      ckI (0 : Int32) (1) <|
      if (lg_cmp (μ5.2.2 31 0 (0 : Int32).toNatClampNeg) (x4.toInt64)) = 0 then (
        j362 μ5
      ) else (
        none
      )
    )
  ) else (
    none
  )
set_option maxHeartbeats 4000000 in
set_option maxRecDepth 100000 in
theorem lcz_1 {X : CX} (hT : (xl X).stackTraces = false) (V : 2 ≤ xv X) (C : Ok X RL cL_law) (R0 : Rm X 2048 84000 601024 7293034) (hN : ∀ i : Nat, i < 8 → i < xn X) {bs SL : Nat} {xs : Nat → Int32} (S : Scr X bs SL xs) (fu gu : Nat) {ca sl : Nat} (hc : ca + 1 ≤ 601024) (hs : sl + 6 ≤ 7293034) (i : Int32) (μ r0 : Mem) (H0 : J X (ca + 1) (sl + 6) r0 2636 [(4, .int i), (0, .ref bs), (1, .ref (xa X 0 0)), (2, .ref (xa X 26 0)), (3, .ref (xa X 31 0))] []) : G X r0 ca sl μ 309 [(4, .int i), (0, .ref bs), (1, .ref (xa X 0 0)), (2, .ref (xa X 26 0)), (3, .ref (xa X 31 0))] [] (lcs_1 fu gu xs SL i μ) := by
  unfold lcs_1
  refine s_aload_n C dL_law_309 rfl 2 rfl ?_
  refine s_aload_n C dL_law_310 rfl 1 rfl ?_
  refine s_iload C dL_law_311 0 rfl ?_
  refine s_iconst (v := (1 : Int32)) C dL_law_313 (by decide) ?_
  refine s_iadd C dL_law_314 ?_
  refine s_sld C S dL_law_315 ?_
  refine s_aload_n C dL_law_316 rfl 4 rfl ?_
  refine s_callH (n := 3) C R0 (kL_load (xl X) hT fu 0 (by decide) (xs (i + (1 : Int32)).toNatClampNeg) 0 (by decide)) (Nat.le_trans (by decide) V) q154 q897 ⟨by decide +kernel, by decide +kernel, by decide +kernel⟩ q896 q895 rfl rfl rfl (Nat.le_of_ble_eq_true rfl) ⟨Nat.le_of_ble_eq_true rfl, Nat.le_of_ble_eq_true rfl, by omega, by omega⟩ dL_law_317 (fun x2 μ1 => ?_)
  refine g_st (st' := [.int x2]) rfl ?_
  refine s_istore (L' := [(5, .int x2), (4, .int i), (0, .ref bs), (1, .ref (xa X 0 0)), (2, .ref (xa X 26 0)), (3, .ref (xa X 31 0))]) C dL_law_320 (hN 5 (by decide)) rfl ?_
  refine s_aload_n C dL_law_322 rfl 4 rfl ?_
  refine s_aload_n C dL_law_323 rfl 2 rfl ?_
  refine s_iload C dL_law_324 1 rfl ?_
  refine s_iconst (v := (1 : Int32)) C dL_law_326 (by decide) ?_
  refine s_iadd C dL_law_327 ?_
  refine s_sld C S dL_law_328 ?_
  refine s_callM C R0 V (kX13_load (xl X) gu 0 (by decide) (xs (i + (1 : Int32)).toNatClampNeg)) mmX13_load miX13_load q2638 (rc26 (Nat.le_trans (by decide) V)) (by decide) rfl rfl rfl (Nat.le_of_ble_eq_true rfl) ⟨Nat.le_of_ble_eq_true rfl, Nat.le_of_ble_eq_true rfl, by omega, by omega⟩ dL_law_329 (fun x4 μ3 => ?_)
  refine g_st (st' := [.int x4]) rfl ?_
  refine s_istore (L' := [(6, .int x4), (5, .int x2), (4, .int i), (0, .ref bs), (1, .ref (xa X 0 0)), (2, .ref (xa X 26 0)), (3, .ref (xa X 31 0))]) C dL_law_332 (hN 6 (by decide)) rfl ?_
  refine s_aload_n C dL_law_334 rfl 5 rfl ?_
  refine s_callM C R0 V (kX13_thrown (xl X) 0 (by decide)) mmX13_thrown miX13_thrown q2229 (rc26 (Nat.le_trans (by decide) V)) (by decide) rfl rfl rfl (Nat.le_of_ble_eq_true rfl) ⟨Nat.le_of_ble_eq_true rfl, Nat.le_of_ble_eq_true rfl, by omega, by omega⟩ dL_law_335 (fun x6 μ5 => ?_)
  refine g_st (st' := [.int x6]) rfl ?_
  refine s_iload C dL_law_338 1 rfl ?_
  refine s_icmp_eq (tgt := 345) C dL_law_340 (by decide) (fun c7 => ?_) (fun c7 => ?_)
  ·
    refine g_jn (P := fun j362 => ∀ (μ8 : Mem), G X r0 (ca + 1) (sl + 6) μ8 362 [(0, .ref bs), (1, .ref (xa X 0 0)), (2, .ref (xa X 26 0)), (3, .ref (xa X 31 0)), (4, .int i)] [] (j362 μ8)) ?_ (fun j362 hj362 => ?_)
    · intro μ8
      refine s_goto (tgt := 2636) C dL_law_362 (by decide) ?_
      exact g_endL (ca1 := ca + 1) (sl1 := sl + 6) (by omega) (by omega) [4, 0, 1, 2, 3] rfl H0
    refine s_iload C dL_law_345 1 rfl ?_
    refine s_if_ne (tgt := 362) C dL_law_347 (by decide) (fun c9 => ?_) (fun c9 => ?_)
    ·
      exact g_wid (ca1 := ca + 1) (sl1 := sl + 6) (by omega) (by omega) <| g_sub [3, 4, 5, 6, 2] rfl (hj362 μ5)
    ·
      refine s_aload_n C dL_law_350 rfl 6 rfl ?_
      refine s_iconst (v := (0 : Int32)) C dL_law_351 (by decide) ?_
      refine s_lald C (ag31 V) (by decide) dL_law_352 ?_
      refine s_iload C dL_law_353 0 rfl ?_
      refine s_i2l C dL_law_355 ?_
      refine s_lcmp C dL_law_356 ?_
      refine s_if_eq (tgt := 362) C dL_law_357 (by decide) (fun c10 => ?_) (fun c10 => ?_)
      ·
        exact g_wid (ca1 := ca + 1) (sl1 := sl + 6) (by omega) (by omega) <| g_sub [3, 4, 5, 6, 2] rfl (hj362 μ5)
      ·
        refine s_iconst (v := (0 : Int32)) C dL_law_360 (by decide) ?_
        exact g_none
  ·
    refine s_iconst (v := (0 : Int32)) C dL_law_343 (by decide) ?_
    exact g_none

def lcs_2 (fu gu : Nat) (xs : Nat → Int32) (SL : Nat) (i : Int32) (μ : Mem) : Option Mem :=
  bnd (fX12_errorPosition 0 μ) fun x2 μ1 =>
  bndJ μ1 (fX13_errorPosition 0 (kJ μ μ1)) fun x4 μ3 =>
  if x2 = x4 then (
    some μ3
  ) else (
    none
  )
set_option maxHeartbeats 4000000 in
set_option maxRecDepth 100000 in
theorem lcz_2 {X : CX} (hT : (xl X).stackTraces = false) (V : 2 ≤ xv X) (C : Ok X RL cL_law) (R0 : Rm X 2048 84000 601024 7293034) (hN : ∀ i : Nat, i < 8 → i < xn X) {bs SL : Nat} {xs : Nat → Int32} (S : Scr X bs SL xs) (fu gu : Nat) {ca sl : Nat} (hc : ca + 0 ≤ 601024) (hs : sl + 0 ≤ 7293034) (i : Int32) (μ r0 : Mem) (H0 : J X (ca + 0) (sl + 0) r0 2636 [(4, .int i), (0, .ref bs), (1, .ref (xa X 0 0)), (2, .ref (xa X 26 0)), (3, .ref (xa X 31 0))] []) : G X r0 ca sl μ 365 [(4, .int i), (0, .ref bs), (1, .ref (xa X 0 0)), (2, .ref (xa X 26 0)), (3, .ref (xa X 31 0))] [] (lcs_2 fu gu xs SL i μ) := by
  unfold lcs_2
  refine s_aload_n C dL_law_365 rfl 2 rfl ?_
  refine s_callV C R0 (kX12_errorPosition (xl X) 0 (by decide)) (Nat.le_trans (by decide) V) mmX12_errorPosition miX12_errorPosition q799 (rc0 _) (by decide) rfl rfl rfl (Nat.le_of_ble_eq_true rfl) ⟨Nat.le_of_ble_eq_true rfl, Nat.le_of_ble_eq_true rfl, by omega, by omega⟩ dL_law_366 (fun x2 μ1 => ?_)
  refine g_st (st' := [.int x2]) rfl ?_
  refine s_aload_n C dL_law_369 rfl 3 rfl ?_
  refine s_callM C R0 V (kX13_errorPosition (xl X) 0 (by decide)) mmX13_errorPosition miX13_errorPosition q2634 (rc26 (Nat.le_trans (by decide) V)) (by decide) rfl rfl rfl (Nat.le_of_ble_eq_true rfl) ⟨Nat.le_of_ble_eq_true rfl, Nat.le_of_ble_eq_true rfl, by omega, by omega⟩ dL_law_370 (fun x4 μ3 => ?_)
  refine g_st (st' := [.int x4, .int x2]) rfl ?_
  refine s_icmp_eq (tgt := 2636) C dL_law_373 (by decide) (fun c5 => ?_) (fun c5 => ?_)
  ·
    exact g_endL (ca1 := ca + 0) (sl1 := sl + 0) (by omega) (by omega) [0, 1, 2, 3, 4] rfl H0
  ·
    refine s_iconst (v := (0 : Int32)) C dL_law_376 (by decide) ?_
    exact g_none

def lcs_3 (fu gu : Nat) (xs : Nat → Int32) (SL : Nat) (i : Int32) (μ : Mem) : Option Mem :=
  bnd (fX12_instructionCount 0 μ) fun x2 μ1 =>
  bndJ μ1 (fX13_instructionCount 0 (kJ μ μ1)) fun x4 μ3 =>
  if x2 = x4 then (
    some μ3
  ) else (
    none
  )
set_option maxHeartbeats 4000000 in
set_option maxRecDepth 100000 in
theorem lcz_3 {X : CX} (hT : (xl X).stackTraces = false) (V : 2 ≤ xv X) (C : Ok X RL cL_law) (R0 : Rm X 2048 84000 601024 7293034) (hN : ∀ i : Nat, i < 8 → i < xn X) {bs SL : Nat} {xs : Nat → Int32} (S : Scr X bs SL xs) (fu gu : Nat) {ca sl : Nat} (hc : ca + 0 ≤ 601024) (hs : sl + 0 ≤ 7293034) (i : Int32) (μ r0 : Mem) (H0 : J X (ca + 0) (sl + 0) r0 2636 [(4, .int i), (0, .ref bs), (1, .ref (xa X 0 0)), (2, .ref (xa X 26 0)), (3, .ref (xa X 31 0))] []) : G X r0 ca sl μ 378 [(4, .int i), (0, .ref bs), (1, .ref (xa X 0 0)), (2, .ref (xa X 26 0)), (3, .ref (xa X 31 0))] [] (lcs_3 fu gu xs SL i μ) := by
  unfold lcs_3
  refine s_aload_n C dL_law_378 rfl 2 rfl ?_
  refine s_callV C R0 (kX12_instructionCount (xl X) 0 (by decide)) (Nat.le_trans (by decide) V) mmX12_instructionCount miX12_instructionCount q803 (rc0 _) (by decide) rfl rfl rfl (Nat.le_of_ble_eq_true rfl) ⟨Nat.le_of_ble_eq_true rfl, Nat.le_of_ble_eq_true rfl, by omega, by omega⟩ dL_law_379 (fun x2 μ1 => ?_)
  refine g_st (st' := [.int x2]) rfl ?_
  refine s_aload_n C dL_law_382 rfl 3 rfl ?_
  refine s_callM C R0 V (kX13_instructionCount (xl X) 0 (by decide)) mmX13_instructionCount miX13_instructionCount q2233 (rc26 (Nat.le_trans (by decide) V)) (by decide) rfl rfl rfl (Nat.le_of_ble_eq_true rfl) ⟨Nat.le_of_ble_eq_true rfl, Nat.le_of_ble_eq_true rfl, by omega, by omega⟩ dL_law_383 (fun x4 μ3 => ?_)
  refine g_st (st' := [.int x4, .int x2]) rfl ?_
  refine s_icmp_eq (tgt := 2636) C dL_law_386 (by decide) (fun c5 => ?_) (fun c5 => ?_)
  ·
    exact g_endL (ca1 := ca + 0) (sl1 := sl + 0) (by omega) (by omega) [0, 1, 2, 3, 4] rfl H0
  ·
    refine s_iconst (v := (0 : Int32)) C dL_law_389 (by decide) ?_
    exact g_none

def lcs_4 (fu gu : Nat) (xs : Nat → Int32) (SL : Nat) (i : Int32) (μ : Mem) : Option Mem :=
  bnd (fX12_engines fu 0 μ) fun x2 μ1 =>
  bndJ μ1 (fX13_engines gu 0 (kJ μ μ1)) fun x4 μ3 =>
  if x2 = x4 then (
    some μ3
  ) else (
    none
  )
set_option maxHeartbeats 4000000 in
set_option maxRecDepth 100000 in
theorem lcz_4 {X : CX} (hT : (xl X).stackTraces = false) (V : 2 ≤ xv X) (C : Ok X RL cL_law) (R0 : Rm X 2048 84000 601024 7293034) (hN : ∀ i : Nat, i < 8 → i < xn X) {bs SL : Nat} {xs : Nat → Int32} (S : Scr X bs SL xs) (fu gu : Nat) {ca sl : Nat} (hc : ca + 0 ≤ 601024) (hs : sl + 0 ≤ 7293034) (i : Int32) (μ r0 : Mem) (H0 : J X (ca + 0) (sl + 0) r0 2636 [(4, .int i), (0, .ref bs), (1, .ref (xa X 0 0)), (2, .ref (xa X 26 0)), (3, .ref (xa X 31 0))] []) : G X r0 ca sl μ 391 [(4, .int i), (0, .ref bs), (1, .ref (xa X 0 0)), (2, .ref (xa X 26 0)), (3, .ref (xa X 31 0))] [] (lcs_4 fu gu xs SL i μ) := by
  unfold lcs_4
  refine s_aload_n C dL_law_391 rfl 2 rfl ?_
  refine s_callV C R0 (kX12_engines (xl X) fu 0 (by decide)) (Nat.le_trans (by decide) V) mmX12_engines miX12_engines q807 (rc0 _) (by decide) rfl rfl rfl (Nat.le_of_ble_eq_true rfl) ⟨Nat.le_of_ble_eq_true rfl, Nat.le_of_ble_eq_true rfl, by omega, by omega⟩ dL_law_392 (fun x2 μ1 => ?_)
  refine g_st (st' := [.int x2]) rfl ?_
  refine s_aload_n C dL_law_395 rfl 3 rfl ?_
  refine s_callM C R0 V (kX13_engines (xl X) gu 0 (by decide)) mmX13_engines miX13_engines q2237 (rc26 (Nat.le_trans (by decide) V)) (by decide) rfl rfl rfl (Nat.le_of_ble_eq_true rfl) ⟨Nat.le_of_ble_eq_true rfl, Nat.le_of_ble_eq_true rfl, by omega, by omega⟩ dL_law_396 (fun x4 μ3 => ?_)
  refine g_st (st' := [.int x4, .int x2]) rfl ?_
  refine s_icmp_eq (tgt := 2636) C dL_law_399 (by decide) (fun c5 => ?_) (fun c5 => ?_)
  ·
    exact g_endL (ca1 := ca + 0) (sl1 := sl + 0) (by omega) (by omega) [0, 1, 2, 3, 4] rfl H0
  ·
    refine s_iconst (v := (0 : Int32)) C dL_law_402 (by decide) ?_
    exact g_none

def lcs_5 (fu gu : Nat) (xs : Nat → Int32) (SL : Nat) (i : Int32) (μ : Mem) : Option Mem :=
  bnd (fX12_clock 0 μ) fun x2 μ1 =>
  bndJ μ1 (fX13_clock 0 (kJ μ μ1)) fun x4 μ3 =>
  if x2 = x4 then (
    some μ3
  ) else (
    none
  )
set_option maxHeartbeats 4000000 in
set_option maxRecDepth 100000 in
theorem lcz_5 {X : CX} (hT : (xl X).stackTraces = false) (V : 2 ≤ xv X) (C : Ok X RL cL_law) (R0 : Rm X 2048 84000 601024 7293034) (hN : ∀ i : Nat, i < 8 → i < xn X) {bs SL : Nat} {xs : Nat → Int32} (S : Scr X bs SL xs) (fu gu : Nat) {ca sl : Nat} (hc : ca + 0 ≤ 601024) (hs : sl + 0 ≤ 7293034) (i : Int32) (μ r0 : Mem) (H0 : J X (ca + 0) (sl + 0) r0 2636 [(4, .int i), (0, .ref bs), (1, .ref (xa X 0 0)), (2, .ref (xa X 26 0)), (3, .ref (xa X 31 0))] []) : G X r0 ca sl μ 404 [(4, .int i), (0, .ref bs), (1, .ref (xa X 0 0)), (2, .ref (xa X 26 0)), (3, .ref (xa X 31 0))] [] (lcs_5 fu gu xs SL i μ) := by
  unfold lcs_5
  refine s_aload_n C dL_law_404 rfl 2 rfl ?_
  refine s_callV C R0 (kX12_clock (xl X) 0 (by decide)) (Nat.le_trans (by decide) V) mmX12_clock miX12_clock q815 (rc0 _) (by decide) rfl rfl rfl (Nat.le_of_ble_eq_true rfl) ⟨Nat.le_of_ble_eq_true rfl, Nat.le_of_ble_eq_true rfl, by omega, by omega⟩ dL_law_405 (fun x2 μ1 => ?_)
  refine g_st (st' := [.int x2]) rfl ?_
  refine s_aload_n C dL_law_408 rfl 3 rfl ?_
  refine s_callM C R0 V (kX13_clock (xl X) 0 (by decide)) mmX13_clock miX13_clock q2245 (rc26 (Nat.le_trans (by decide) V)) (by decide) rfl rfl rfl (Nat.le_of_ble_eq_true rfl) ⟨Nat.le_of_ble_eq_true rfl, Nat.le_of_ble_eq_true rfl, by omega, by omega⟩ dL_law_409 (fun x4 μ3 => ?_)
  refine g_st (st' := [.int x4, .int x2]) rfl ?_
  refine s_icmp_eq (tgt := 2636) C dL_law_412 (by decide) (fun c5 => ?_) (fun c5 => ?_)
  ·
    exact g_endL (ca1 := ca + 0) (sl1 := sl + 0) (by omega) (by omega) [0, 1, 2, 3, 4] rfl H0
  ·
    refine s_iconst (v := (0 : Int32)) C dL_law_415 (by decide) ?_
    exact g_none

def lcs_6 (fu gu : Nat) (xs : Nat → Int32) (SL : Nat) (i : Int32) (μ : Mem) : Option Mem :=
  ckI (i + (1 : Int32)) SL <|
  bnd (fL_level 0 (xs (i + (1 : Int32)).toNatClampNeg) 0 μ) fun x2 μ1 =>
  ckI (i + (1 : Int32)) SL <|
  bndJ μ1 (fX13_level 0 (xs (i + (1 : Int32)).toNatClampNeg) (kJ μ μ1)) fun x4 μ3 =>
  bndJ μ3 (fX13_thrown 0 (kJ μ μ3)) fun x6 μ5 =>
  if x6 = x2 then (
    jn (fun (μ8 : Mem) =>
      some μ8
    ) fun j470 =>
    if ¬ x2 = 0 then (
      j470 μ5
    ) else (
      ckI (0 : Int32) (1) <|
      if (lg_cmp (μ5.2.2 31 0 (0 : Int32).toNatClampNeg) (x4.toInt64)) = 0 then (
        j470 μ5
      ) else (
        none
      )
    )
  ) else (
    none
  )
set_option maxHeartbeats 4000000 in
set_option maxRecDepth 100000 in
theorem lcz_6 {X : CX} (hT : (xl X).stackTraces = false) (V : 2 ≤ xv X) (C : Ok X RL cL_law) (R0 : Rm X 2048 84000 601024 7293034) (hN : ∀ i : Nat, i < 8 → i < xn X) {bs SL : Nat} {xs : Nat → Int32} (S : Scr X bs SL xs) (fu gu : Nat) {ca sl : Nat} (hc : ca + 1 ≤ 601024) (hs : sl + 6 ≤ 7293034) (i : Int32) (μ r0 : Mem) (H0 : J X (ca + 1) (sl + 6) r0 2636 [(4, .int i), (0, .ref bs), (1, .ref (xa X 0 0)), (2, .ref (xa X 26 0)), (3, .ref (xa X 31 0))] []) : G X r0 ca sl μ 417 [(4, .int i), (0, .ref bs), (1, .ref (xa X 0 0)), (2, .ref (xa X 26 0)), (3, .ref (xa X 31 0))] [] (lcs_6 fu gu xs SL i μ) := by
  unfold lcs_6
  refine s_aload_n C dL_law_417 rfl 2 rfl ?_
  refine s_aload_n C dL_law_418 rfl 1 rfl ?_
  refine s_iload C dL_law_419 0 rfl ?_
  refine s_iconst (v := (1 : Int32)) C dL_law_421 (by decide) ?_
  refine s_iadd C dL_law_422 ?_
  refine s_sld C S dL_law_423 ?_
  refine s_aload_n C dL_law_424 rfl 4 rfl ?_
  refine s_callH (n := 3) C R0 (kL_level (xl X) hT 0 (by decide) (xs (i + (1 : Int32)).toNatClampNeg) 0 (by decide)) (Nat.le_trans (by decide) V) q154 q1211 ⟨by decide +kernel, by decide +kernel, by decide +kernel⟩ q1210 q1209 rfl rfl rfl (Nat.le_of_ble_eq_true rfl) ⟨Nat.le_of_ble_eq_true rfl, Nat.le_of_ble_eq_true rfl, by omega, by omega⟩ dL_law_425 (fun x2 μ1 => ?_)
  refine g_st (st' := [.int x2]) rfl ?_
  refine s_istore (L' := [(5, .int x2), (4, .int i), (0, .ref bs), (1, .ref (xa X 0 0)), (2, .ref (xa X 26 0)), (3, .ref (xa X 31 0))]) C dL_law_428 (hN 5 (by decide)) rfl ?_
  refine s_aload_n C dL_law_430 rfl 4 rfl ?_
  refine s_aload_n C dL_law_431 rfl 2 rfl ?_
  refine s_iload C dL_law_432 1 rfl ?_
  refine s_iconst (v := (1 : Int32)) C dL_law_434 (by decide) ?_
  refine s_iadd C dL_law_435 ?_
  refine s_sld C S dL_law_436 ?_
  refine s_callM C R0 V (kX13_level (xl X) 0 (by decide) (xs (i + (1 : Int32)).toNatClampNeg)) mmX13_level miX13_level q2249 (rc26 (Nat.le_trans (by decide) V)) (by decide) rfl rfl rfl (Nat.le_of_ble_eq_true rfl) ⟨Nat.le_of_ble_eq_true rfl, Nat.le_of_ble_eq_true rfl, by omega, by omega⟩ dL_law_437 (fun x4 μ3 => ?_)
  refine g_st (st' := [.int x4]) rfl ?_
  refine s_istore (L' := [(6, .int x4), (5, .int x2), (4, .int i), (0, .ref bs), (1, .ref (xa X 0 0)), (2, .ref (xa X 26 0)), (3, .ref (xa X 31 0))]) C dL_law_440 (hN 6 (by decide)) rfl ?_
  refine s_aload_n C dL_law_442 rfl 5 rfl ?_
  refine s_callM C R0 V (kX13_thrown (xl X) 0 (by decide)) mmX13_thrown miX13_thrown q2229 (rc26 (Nat.le_trans (by decide) V)) (by decide) rfl rfl rfl (Nat.le_of_ble_eq_true rfl) ⟨Nat.le_of_ble_eq_true rfl, Nat.le_of_ble_eq_true rfl, by omega, by omega⟩ dL_law_443 (fun x6 μ5 => ?_)
  refine g_st (st' := [.int x6]) rfl ?_
  refine s_iload C dL_law_446 1 rfl ?_
  refine s_icmp_eq (tgt := 453) C dL_law_448 (by decide) (fun c7 => ?_) (fun c7 => ?_)
  ·
    refine g_jn (P := fun j470 => ∀ (μ8 : Mem), G X r0 (ca + 1) (sl + 6) μ8 470 [(0, .ref bs), (1, .ref (xa X 0 0)), (2, .ref (xa X 26 0)), (3, .ref (xa X 31 0)), (4, .int i)] [] (j470 μ8)) ?_ (fun j470 hj470 => ?_)
    · intro μ8
      refine s_goto (tgt := 2636) C dL_law_470 (by decide) ?_
      exact g_endL (ca1 := ca + 1) (sl1 := sl + 6) (by omega) (by omega) [4, 0, 1, 2, 3] rfl H0
    refine s_iload C dL_law_453 1 rfl ?_
    refine s_if_ne (tgt := 470) C dL_law_455 (by decide) (fun c9 => ?_) (fun c9 => ?_)
    ·
      exact g_wid (ca1 := ca + 1) (sl1 := sl + 6) (by omega) (by omega) <| g_sub [3, 4, 5, 6, 2] rfl (hj470 μ5)
    ·
      refine s_aload_n C dL_law_458 rfl 6 rfl ?_
      refine s_iconst (v := (0 : Int32)) C dL_law_459 (by decide) ?_
      refine s_lald C (ag31 V) (by decide) dL_law_460 ?_
      refine s_iload C dL_law_461 0 rfl ?_
      refine s_i2l C dL_law_463 ?_
      refine s_lcmp C dL_law_464 ?_
      refine s_if_eq (tgt := 470) C dL_law_465 (by decide) (fun c10 => ?_) (fun c10 => ?_)
      ·
        exact g_wid (ca1 := ca + 1) (sl1 := sl + 6) (by omega) (by omega) <| g_sub [3, 4, 5, 6, 2] rfl (hj470 μ5)
      ·
        refine s_iconst (v := (0 : Int32)) C dL_law_468 (by decide) ?_
        exact g_none
  ·
    refine s_iconst (v := (0 : Int32)) C dL_law_451 (by decide) ?_
    exact g_none

def lcs_7 (fu gu : Nat) (xs : Nat → Int32) (SL : Nat) (i : Int32) (μ : Mem) : Option Mem :=
  ckI (i + (1 : Int32)) SL <|
  bnd (fL_latch 0 (xs (i + (1 : Int32)).toNatClampNeg) 0 μ) fun x2 μ1 =>
  ckI (i + (1 : Int32)) SL <|
  bndJ μ1 (fX13_latch 0 (xs (i + (1 : Int32)).toNatClampNeg) (kJ μ μ1)) fun x4 μ3 =>
  bndJ μ3 (fX13_thrown 0 (kJ μ μ3)) fun x6 μ5 =>
  if x6 = x2 then (
    jn (fun (μ8 : Mem) =>
      some μ8
    ) fun j526 =>
    if ¬ x2 = 0 then (
      j526 μ5
    ) else (
      ckI (0 : Int32) (1) <|
      if (lg_cmp (μ5.2.2 31 0 (0 : Int32).toNatClampNeg) (x4.toInt64)) = 0 then (
        j526 μ5
      ) else (
        none
      )
    )
  ) else (
    none
  )
set_option maxHeartbeats 4000000 in
set_option maxRecDepth 100000 in
theorem lcz_7 {X : CX} (hT : (xl X).stackTraces = false) (V : 2 ≤ xv X) (C : Ok X RL cL_law) (R0 : Rm X 2048 84000 601024 7293034) (hN : ∀ i : Nat, i < 8 → i < xn X) {bs SL : Nat} {xs : Nat → Int32} (S : Scr X bs SL xs) (fu gu : Nat) {ca sl : Nat} (hc : ca + 1 ≤ 601024) (hs : sl + 6 ≤ 7293034) (i : Int32) (μ r0 : Mem) (H0 : J X (ca + 1) (sl + 6) r0 2636 [(4, .int i), (0, .ref bs), (1, .ref (xa X 0 0)), (2, .ref (xa X 26 0)), (3, .ref (xa X 31 0))] []) : G X r0 ca sl μ 473 [(4, .int i), (0, .ref bs), (1, .ref (xa X 0 0)), (2, .ref (xa X 26 0)), (3, .ref (xa X 31 0))] [] (lcs_7 fu gu xs SL i μ) := by
  unfold lcs_7
  refine s_aload_n C dL_law_473 rfl 2 rfl ?_
  refine s_aload_n C dL_law_474 rfl 1 rfl ?_
  refine s_iload C dL_law_475 0 rfl ?_
  refine s_iconst (v := (1 : Int32)) C dL_law_477 (by decide) ?_
  refine s_iadd C dL_law_478 ?_
  refine s_sld C S dL_law_479 ?_
  refine s_aload_n C dL_law_480 rfl 4 rfl ?_
  refine s_callH (n := 3) C R0 (kL_latch (xl X) hT 0 (by decide) (xs (i + (1 : Int32)).toNatClampNeg) 0 (by decide)) (Nat.le_trans (by decide) V) q154 q1238 ⟨by decide +kernel, by decide +kernel, by decide +kernel⟩ q1237 q1236 rfl rfl rfl (Nat.le_of_ble_eq_true rfl) ⟨Nat.le_of_ble_eq_true rfl, Nat.le_of_ble_eq_true rfl, by omega, by omega⟩ dL_law_481 (fun x2 μ1 => ?_)
  refine g_st (st' := [.int x2]) rfl ?_
  refine s_istore (L' := [(5, .int x2), (4, .int i), (0, .ref bs), (1, .ref (xa X 0 0)), (2, .ref (xa X 26 0)), (3, .ref (xa X 31 0))]) C dL_law_484 (hN 5 (by decide)) rfl ?_
  refine s_aload_n C dL_law_486 rfl 4 rfl ?_
  refine s_aload_n C dL_law_487 rfl 2 rfl ?_
  refine s_iload C dL_law_488 1 rfl ?_
  refine s_iconst (v := (1 : Int32)) C dL_law_490 (by decide) ?_
  refine s_iadd C dL_law_491 ?_
  refine s_sld C S dL_law_492 ?_
  refine s_callM C R0 V (kX13_latch (xl X) 0 (by decide) (xs (i + (1 : Int32)).toNatClampNeg)) mmX13_latch miX13_latch q2271 (rc26 (Nat.le_trans (by decide) V)) (by decide) rfl rfl rfl (Nat.le_of_ble_eq_true rfl) ⟨Nat.le_of_ble_eq_true rfl, Nat.le_of_ble_eq_true rfl, by omega, by omega⟩ dL_law_493 (fun x4 μ3 => ?_)
  refine g_st (st' := [.int x4]) rfl ?_
  refine s_istore (L' := [(6, .int x4), (5, .int x2), (4, .int i), (0, .ref bs), (1, .ref (xa X 0 0)), (2, .ref (xa X 26 0)), (3, .ref (xa X 31 0))]) C dL_law_496 (hN 6 (by decide)) rfl ?_
  refine s_aload_n C dL_law_498 rfl 5 rfl ?_
  refine s_callM C R0 V (kX13_thrown (xl X) 0 (by decide)) mmX13_thrown miX13_thrown q2229 (rc26 (Nat.le_trans (by decide) V)) (by decide) rfl rfl rfl (Nat.le_of_ble_eq_true rfl) ⟨Nat.le_of_ble_eq_true rfl, Nat.le_of_ble_eq_true rfl, by omega, by omega⟩ dL_law_499 (fun x6 μ5 => ?_)
  refine g_st (st' := [.int x6]) rfl ?_
  refine s_iload C dL_law_502 1 rfl ?_
  refine s_icmp_eq (tgt := 509) C dL_law_504 (by decide) (fun c7 => ?_) (fun c7 => ?_)
  ·
    refine g_jn (P := fun j526 => ∀ (μ8 : Mem), G X r0 (ca + 1) (sl + 6) μ8 526 [(0, .ref bs), (1, .ref (xa X 0 0)), (2, .ref (xa X 26 0)), (3, .ref (xa X 31 0)), (4, .int i)] [] (j526 μ8)) ?_ (fun j526 hj526 => ?_)
    · intro μ8
      refine s_goto (tgt := 2636) C dL_law_526 (by decide) ?_
      exact g_endL (ca1 := ca + 1) (sl1 := sl + 6) (by omega) (by omega) [4, 0, 1, 2, 3] rfl H0
    refine s_iload C dL_law_509 1 rfl ?_
    refine s_if_ne (tgt := 526) C dL_law_511 (by decide) (fun c9 => ?_) (fun c9 => ?_)
    ·
      exact g_wid (ca1 := ca + 1) (sl1 := sl + 6) (by omega) (by omega) <| g_sub [3, 4, 5, 6, 2] rfl (hj526 μ5)
    ·
      refine s_aload_n C dL_law_514 rfl 6 rfl ?_
      refine s_iconst (v := (0 : Int32)) C dL_law_515 (by decide) ?_
      refine s_lald C (ag31 V) (by decide) dL_law_516 ?_
      refine s_iload C dL_law_517 0 rfl ?_
      refine s_i2l C dL_law_519 ?_
      refine s_lcmp C dL_law_520 ?_
      refine s_if_eq (tgt := 526) C dL_law_521 (by decide) (fun c10 => ?_) (fun c10 => ?_)
      ·
        exact g_wid (ca1 := ca + 1) (sl1 := sl + 6) (by omega) (by omega) <| g_sub [3, 4, 5, 6, 2] rfl (hj526 μ5)
      ·
        refine s_iconst (v := (0 : Int32)) C dL_law_524 (by decide) ?_
        exact g_none
  ·
    refine s_iconst (v := (0 : Int32)) C dL_law_507 (by decide) ?_
    exact g_none

def lcs_8 (fu gu : Nat) (xs : Nat → Int32) (SL : Nat) (i : Int32) (μ : Mem) : Option Mem :=
  ckI (i + (1 : Int32)) SL <|
  bnd (fL_isOutput 0 (xs (i + (1 : Int32)).toNatClampNeg) 0 μ) fun x2 μ1 =>
  ckI (i + (1 : Int32)) SL <|
  bndJ μ1 (fX13_isOutput 0 (xs (i + (1 : Int32)).toNatClampNeg) (kJ μ μ1)) fun x4 μ3 =>
  bndJ μ3 (fX13_thrown 0 (kJ μ μ3)) fun x6 μ5 =>
  if x6 = x2 then (
    jn (fun (μ8 : Mem) =>
      some μ8
    ) fun j589 =>
    if ¬ x2 = 0 then (
      j589 μ5
    ) else (
      jn (fun (μ10 : Mem) (y11 : Int64) (y12 : Int64) =>
        if (lg_cmp y11 y12) = 0 then (
          j589 μ10
        ) else (
          none
        )
      ) fun j583 =>
      ckI (0 : Int32) (1) <|
      if x4 = 0 then (
        j583 μ5 (μ5.2.2 31 0 (0 : Int32).toNatClampNeg) (0 : Int64)
      ) else (
        j583 μ5 (μ5.2.2 31 0 (0 : Int32).toNatClampNeg) (1 : Int64)
      )
    )
  ) else (
    none
  )
set_option maxHeartbeats 4000000 in
set_option maxRecDepth 100000 in
theorem lcz_8 {X : CX} (hT : (xl X).stackTraces = false) (V : 2 ≤ xv X) (C : Ok X RL cL_law) (R0 : Rm X 2048 84000 601024 7293034) (hN : ∀ i : Nat, i < 8 → i < xn X) {bs SL : Nat} {xs : Nat → Int32} (S : Scr X bs SL xs) (fu gu : Nat) {ca sl : Nat} (hc : ca + 1 ≤ 601024) (hs : sl + 6 ≤ 7293034) (i : Int32) (μ r0 : Mem) (H0 : J X (ca + 1) (sl + 6) r0 2636 [(4, .int i), (0, .ref bs), (1, .ref (xa X 0 0)), (2, .ref (xa X 26 0)), (3, .ref (xa X 31 0))] []) : G X r0 ca sl μ 529 [(4, .int i), (0, .ref bs), (1, .ref (xa X 0 0)), (2, .ref (xa X 26 0)), (3, .ref (xa X 31 0))] [] (lcs_8 fu gu xs SL i μ) := by
  unfold lcs_8
  refine s_aload_n C dL_law_529 rfl 2 rfl ?_
  refine s_aload_n C dL_law_530 rfl 1 rfl ?_
  refine s_iload C dL_law_531 0 rfl ?_
  refine s_iconst (v := (1 : Int32)) C dL_law_533 (by decide) ?_
  refine s_iadd C dL_law_534 ?_
  refine s_sld C S dL_law_535 ?_
  refine s_aload_n C dL_law_536 rfl 4 rfl ?_
  refine s_callH (n := 3) C R0 (kL_isOutput (xl X) hT 0 (by decide) (xs (i + (1 : Int32)).toNatClampNeg) 0 (by decide)) (Nat.le_trans (by decide) V) q154 q1245 ⟨by decide +kernel, by decide +kernel, by decide +kernel⟩ q1244 q1243 rfl rfl rfl (Nat.le_of_ble_eq_true rfl) ⟨Nat.le_of_ble_eq_true rfl, Nat.le_of_ble_eq_true rfl, by omega, by omega⟩ dL_law_537 (fun x2 μ1 => ?_)
  refine g_st (st' := [.int x2]) rfl ?_
  refine s_istore (L' := [(5, .int x2), (4, .int i), (0, .ref bs), (1, .ref (xa X 0 0)), (2, .ref (xa X 26 0)), (3, .ref (xa X 31 0))]) C dL_law_540 (hN 5 (by decide)) rfl ?_
  refine s_aload_n C dL_law_542 rfl 4 rfl ?_
  refine s_aload_n C dL_law_543 rfl 2 rfl ?_
  refine s_iload C dL_law_544 1 rfl ?_
  refine s_iconst (v := (1 : Int32)) C dL_law_546 (by decide) ?_
  refine s_iadd C dL_law_547 ?_
  refine s_sld C S dL_law_548 ?_
  refine s_callM C R0 V (kX13_isOutput (xl X) 0 (by decide) (xs (i + (1 : Int32)).toNatClampNeg)) mmX13_isOutput miX13_isOutput q2279 (rc26 (Nat.le_trans (by decide) V)) (by decide) rfl rfl rfl (Nat.le_of_ble_eq_true rfl) ⟨Nat.le_of_ble_eq_true rfl, Nat.le_of_ble_eq_true rfl, by omega, by omega⟩ dL_law_549 (fun x4 μ3 => ?_)
  refine g_st (st' := [.int x4]) rfl ?_
  refine s_istore (L' := [(6, .int x4), (5, .int x2), (4, .int i), (0, .ref bs), (1, .ref (xa X 0 0)), (2, .ref (xa X 26 0)), (3, .ref (xa X 31 0))]) C dL_law_552 (hN 6 (by decide)) rfl ?_
  refine s_aload_n C dL_law_554 rfl 5 rfl ?_
  refine s_callM C R0 V (kX13_thrown (xl X) 0 (by decide)) mmX13_thrown miX13_thrown q2229 (rc26 (Nat.le_trans (by decide) V)) (by decide) rfl rfl rfl (Nat.le_of_ble_eq_true rfl) ⟨Nat.le_of_ble_eq_true rfl, Nat.le_of_ble_eq_true rfl, by omega, by omega⟩ dL_law_555 (fun x6 μ5 => ?_)
  refine g_st (st' := [.int x6]) rfl ?_
  refine s_iload C dL_law_558 1 rfl ?_
  refine s_icmp_eq (tgt := 565) C dL_law_560 (by decide) (fun c7 => ?_) (fun c7 => ?_)
  ·
    refine g_jn (P := fun j589 => ∀ (μ8 : Mem), G X r0 (ca + 1) (sl + 6) μ8 589 [(0, .ref bs), (1, .ref (xa X 0 0)), (2, .ref (xa X 26 0)), (3, .ref (xa X 31 0)), (4, .int i)] [] (j589 μ8)) ?_ (fun j589 hj589 => ?_)
    · intro μ8
      refine s_goto (tgt := 2636) C dL_law_589 (by decide) ?_
      exact g_endL (ca1 := ca + 1) (sl1 := sl + 6) (by omega) (by omega) [4, 0, 1, 2, 3] rfl H0
    refine s_iload C dL_law_565 1 rfl ?_
    refine s_if_ne (tgt := 589) C dL_law_567 (by decide) (fun c9 => ?_) (fun c9 => ?_)
    ·
      exact g_wid (ca1 := ca + 1) (sl1 := sl + 6) (by omega) (by omega) <| g_sub [3, 4, 5, 6, 2] rfl (hj589 μ5)
    ·
      refine g_jn (P := fun j583 => ∀ (μ10 : Mem) (y11 : Int64) (y12 : Int64), G X r0 (ca + 1) (sl + 6) μ10 583 [(0, .ref bs), (1, .ref (xa X 0 0)), (2, .ref (xa X 26 0)), (3, .ref (xa X 31 0)), (4, .int i)] [.long y12, .long y11] (j583 μ10 y11 y12)) ?_ (fun j583 hj583 => ?_)
      · intro μ10 y11 y12
        refine s_lcmp C dL_law_583 ?_
        refine s_if_eq (tgt := 589) C dL_law_584 (by decide) (fun c13 => ?_) (fun c13 => ?_)
        ·
          exact g_wid (ca1 := ca + 1) (sl1 := sl + 6) (by omega) (by omega) <| g_sub [0, 1, 2, 3, 4] rfl (hj589 μ10)
        ·
          refine s_iconst (v := (0 : Int32)) C dL_law_587 (by decide) ?_
          exact g_none
      refine s_aload_n C dL_law_570 rfl 6 rfl ?_
      refine s_iconst (v := (0 : Int32)) C dL_law_571 (by decide) ?_
      refine s_lald C (ag31 V) (by decide) dL_law_572 ?_
      refine s_iload C dL_law_573 0 rfl ?_
      refine s_if_eq (tgt := 582) C dL_law_575 (by decide) (fun c14 => ?_) (fun c14 => ?_)
      ·
        refine s_lconst (v := (0 : Int64)) C dL_law_582 (by decide) ?_
        exact g_wid (ca1 := ca + 1) (sl1 := sl + 6) (by omega) (by omega) <| g_sub [3, 4, 5, 6, 2] rfl (hj583 μ5 (μ5.2.2 31 0 (0 : Int32).toNatClampNeg) (0 : Int64))
      ·
        refine s_lconst (v := (1 : Int64)) C dL_law_578 (by decide) ?_
        refine s_goto (tgt := 583) C dL_law_579 (by decide) ?_
        exact g_wid (ca1 := ca + 1) (sl1 := sl + 6) (by omega) (by omega) <| g_sub [3, 4, 5, 6, 2] rfl (hj583 μ5 (μ5.2.2 31 0 (0 : Int32).toNatClampNeg) (1 : Int64))
  ·
    refine s_iconst (v := (0 : Int32)) C dL_law_563 (by decide) ?_
    exact g_none

def lcs_9 (fu gu : Nat) (xs : Nat → Int32) (SL : Nat) (i : Int32) (μ : Mem) : Option Mem :=
  ckI (i + (1 : Int32)) SL <|
  bnd (fL_flag 0 (xs (i + (1 : Int32)).toNatClampNeg) 0 μ) fun x2 μ1 =>
  ckI (i + (1 : Int32)) SL <|
  bndJ μ1 (fX13_flag 0 (xs (i + (1 : Int32)).toNatClampNeg) (kJ μ μ1)) fun x4 μ3 =>
  bndJ μ3 (fX13_thrown 0 (kJ μ μ3)) fun x6 μ5 =>
  if x6 = x2 then (
    jn (fun (μ8 : Mem) =>
      some μ8
    ) fun j645 =>
    if ¬ x2 = 0 then (
      j645 μ5
    ) else (
      ckI (0 : Int32) (1) <|
      if (lg_cmp (μ5.2.2 31 0 (0 : Int32).toNatClampNeg) (x4.toInt64)) = 0 then (
        j645 μ5
      ) else (
        none
      )
    )
  ) else (
    none
  )
set_option maxHeartbeats 4000000 in
set_option maxRecDepth 100000 in
theorem lcz_9 {X : CX} (hT : (xl X).stackTraces = false) (V : 2 ≤ xv X) (C : Ok X RL cL_law) (R0 : Rm X 2048 84000 601024 7293034) (hN : ∀ i : Nat, i < 8 → i < xn X) {bs SL : Nat} {xs : Nat → Int32} (S : Scr X bs SL xs) (fu gu : Nat) {ca sl : Nat} (hc : ca + 1 ≤ 601024) (hs : sl + 6 ≤ 7293034) (i : Int32) (μ r0 : Mem) (H0 : J X (ca + 1) (sl + 6) r0 2636 [(4, .int i), (0, .ref bs), (1, .ref (xa X 0 0)), (2, .ref (xa X 26 0)), (3, .ref (xa X 31 0))] []) : G X r0 ca sl μ 592 [(4, .int i), (0, .ref bs), (1, .ref (xa X 0 0)), (2, .ref (xa X 26 0)), (3, .ref (xa X 31 0))] [] (lcs_9 fu gu xs SL i μ) := by
  unfold lcs_9
  refine s_aload_n C dL_law_592 rfl 2 rfl ?_
  refine s_aload_n C dL_law_593 rfl 1 rfl ?_
  refine s_iload C dL_law_594 0 rfl ?_
  refine s_iconst (v := (1 : Int32)) C dL_law_596 (by decide) ?_
  refine s_iadd C dL_law_597 ?_
  refine s_sld C S dL_law_598 ?_
  refine s_aload_n C dL_law_599 rfl 4 rfl ?_
  refine s_callH (n := 3) C R0 (kL_flag (xl X) hT 0 (by decide) (xs (i + (1 : Int32)).toNatClampNeg) 0 (by decide)) (Nat.le_trans (by decide) V) q154 q1252 ⟨by decide +kernel, by decide +kernel, by decide +kernel⟩ q1251 q1250 rfl rfl rfl (Nat.le_of_ble_eq_true rfl) ⟨Nat.le_of_ble_eq_true rfl, Nat.le_of_ble_eq_true rfl, by omega, by omega⟩ dL_law_600 (fun x2 μ1 => ?_)
  refine g_st (st' := [.int x2]) rfl ?_
  refine s_istore (L' := [(5, .int x2), (4, .int i), (0, .ref bs), (1, .ref (xa X 0 0)), (2, .ref (xa X 26 0)), (3, .ref (xa X 31 0))]) C dL_law_603 (hN 5 (by decide)) rfl ?_
  refine s_aload_n C dL_law_605 rfl 4 rfl ?_
  refine s_aload_n C dL_law_606 rfl 2 rfl ?_
  refine s_iload C dL_law_607 1 rfl ?_
  refine s_iconst (v := (1 : Int32)) C dL_law_609 (by decide) ?_
  refine s_iadd C dL_law_610 ?_
  refine s_sld C S dL_law_611 ?_
  refine s_callM C R0 V (kX13_flag (xl X) 0 (by decide) (xs (i + (1 : Int32)).toNatClampNeg)) mmX13_flag miX13_flag q2283 (rc26 (Nat.le_trans (by decide) V)) (by decide) rfl rfl rfl (Nat.le_of_ble_eq_true rfl) ⟨Nat.le_of_ble_eq_true rfl, Nat.le_of_ble_eq_true rfl, by omega, by omega⟩ dL_law_612 (fun x4 μ3 => ?_)
  refine g_st (st' := [.int x4]) rfl ?_
  refine s_istore (L' := [(6, .int x4), (5, .int x2), (4, .int i), (0, .ref bs), (1, .ref (xa X 0 0)), (2, .ref (xa X 26 0)), (3, .ref (xa X 31 0))]) C dL_law_615 (hN 6 (by decide)) rfl ?_
  refine s_aload_n C dL_law_617 rfl 5 rfl ?_
  refine s_callM C R0 V (kX13_thrown (xl X) 0 (by decide)) mmX13_thrown miX13_thrown q2229 (rc26 (Nat.le_trans (by decide) V)) (by decide) rfl rfl rfl (Nat.le_of_ble_eq_true rfl) ⟨Nat.le_of_ble_eq_true rfl, Nat.le_of_ble_eq_true rfl, by omega, by omega⟩ dL_law_618 (fun x6 μ5 => ?_)
  refine g_st (st' := [.int x6]) rfl ?_
  refine s_iload C dL_law_621 1 rfl ?_
  refine s_icmp_eq (tgt := 628) C dL_law_623 (by decide) (fun c7 => ?_) (fun c7 => ?_)
  ·
    refine g_jn (P := fun j645 => ∀ (μ8 : Mem), G X r0 (ca + 1) (sl + 6) μ8 645 [(0, .ref bs), (1, .ref (xa X 0 0)), (2, .ref (xa X 26 0)), (3, .ref (xa X 31 0)), (4, .int i)] [] (j645 μ8)) ?_ (fun j645 hj645 => ?_)
    · intro μ8
      refine s_goto (tgt := 2636) C dL_law_645 (by decide) ?_
      exact g_endL (ca1 := ca + 1) (sl1 := sl + 6) (by omega) (by omega) [4, 0, 1, 2, 3] rfl H0
    refine s_iload C dL_law_628 1 rfl ?_
    refine s_if_ne (tgt := 645) C dL_law_630 (by decide) (fun c9 => ?_) (fun c9 => ?_)
    ·
      exact g_wid (ca1 := ca + 1) (sl1 := sl + 6) (by omega) (by omega) <| g_sub [3, 4, 5, 6, 2] rfl (hj645 μ5)
    ·
      refine s_aload_n C dL_law_633 rfl 6 rfl ?_
      refine s_iconst (v := (0 : Int32)) C dL_law_634 (by decide) ?_
      refine s_lald C (ag31 V) (by decide) dL_law_635 ?_
      refine s_iload C dL_law_636 0 rfl ?_
      refine s_i2l C dL_law_638 ?_
      refine s_lcmp C dL_law_639 ?_
      refine s_if_eq (tgt := 645) C dL_law_640 (by decide) (fun c10 => ?_) (fun c10 => ?_)
      ·
        exact g_wid (ca1 := ca + 1) (sl1 := sl + 6) (by omega) (by omega) <| g_sub [3, 4, 5, 6, 2] rfl (hj645 μ5)
      ·
        refine s_iconst (v := (0 : Int32)) C dL_law_643 (by decide) ?_
        exact g_none
  ·
    refine s_iconst (v := (0 : Int32)) C dL_law_626 (by decide) ?_
    exact g_none

def lcs_10 (fu gu : Nat) (xs : Nat → Int32) (SL : Nat) (i : Int32) (μ : Mem) : Option Mem :=
  ckI (i + (1 : Int32)) SL <|
  bnd (fL_memory 0 (xs (i + (1 : Int32)).toNatClampNeg) 0 μ) fun x2 μ1 =>
  ckI (i + (1 : Int32)) SL <|
  bndJ μ1 (fX13_memory 0 (xs (i + (1 : Int32)).toNatClampNeg) (kJ μ μ1)) fun x4 μ3 =>
  bndJ μ3 (fX13_thrown 0 (kJ μ μ3)) fun x6 μ5 =>
  if x6 = x2 then (
    jn (fun (μ8 : Mem) =>
      some μ8
    ) fun j701 =>
    if ¬ x2 = 0 then (
      j701 μ5
    ) else (
      ckI (0 : Int32) (1) <|
      if (lg_cmp (μ5.2.2 31 0 (0 : Int32).toNatClampNeg) (x4.toInt64)) = 0 then (
        j701 μ5
      ) else (
        none
      )
    )
  ) else (
    none
  )
set_option maxHeartbeats 4000000 in
set_option maxRecDepth 100000 in
theorem lcz_10 {X : CX} (hT : (xl X).stackTraces = false) (V : 2 ≤ xv X) (C : Ok X RL cL_law) (R0 : Rm X 2048 84000 601024 7293034) (hN : ∀ i : Nat, i < 8 → i < xn X) {bs SL : Nat} {xs : Nat → Int32} (S : Scr X bs SL xs) (fu gu : Nat) {ca sl : Nat} (hc : ca + 1 ≤ 601024) (hs : sl + 6 ≤ 7293034) (i : Int32) (μ r0 : Mem) (H0 : J X (ca + 1) (sl + 6) r0 2636 [(4, .int i), (0, .ref bs), (1, .ref (xa X 0 0)), (2, .ref (xa X 26 0)), (3, .ref (xa X 31 0))] []) : G X r0 ca sl μ 648 [(4, .int i), (0, .ref bs), (1, .ref (xa X 0 0)), (2, .ref (xa X 26 0)), (3, .ref (xa X 31 0))] [] (lcs_10 fu gu xs SL i μ) := by
  unfold lcs_10
  refine s_aload_n C dL_law_648 rfl 2 rfl ?_
  refine s_aload_n C dL_law_649 rfl 1 rfl ?_
  refine s_iload C dL_law_650 0 rfl ?_
  refine s_iconst (v := (1 : Int32)) C dL_law_652 (by decide) ?_
  refine s_iadd C dL_law_653 ?_
  refine s_sld C S dL_law_654 ?_
  refine s_aload_n C dL_law_655 rfl 4 rfl ?_
  refine s_callH (n := 3) C R0 (kL_memory (xl X) hT 0 (by decide) (xs (i + (1 : Int32)).toNatClampNeg) 0 (by decide)) (Nat.le_trans (by decide) V) q154 q1259 ⟨by decide +kernel, by decide +kernel, by decide +kernel⟩ q1258 q1257 rfl rfl rfl (Nat.le_of_ble_eq_true rfl) ⟨Nat.le_of_ble_eq_true rfl, Nat.le_of_ble_eq_true rfl, by omega, by omega⟩ dL_law_656 (fun x2 μ1 => ?_)
  refine g_st (st' := [.int x2]) rfl ?_
  refine s_istore (L' := [(5, .int x2), (4, .int i), (0, .ref bs), (1, .ref (xa X 0 0)), (2, .ref (xa X 26 0)), (3, .ref (xa X 31 0))]) C dL_law_659 (hN 5 (by decide)) rfl ?_
  refine s_aload_n C dL_law_661 rfl 4 rfl ?_
  refine s_aload_n C dL_law_662 rfl 2 rfl ?_
  refine s_iload C dL_law_663 1 rfl ?_
  refine s_iconst (v := (1 : Int32)) C dL_law_665 (by decide) ?_
  refine s_iadd C dL_law_666 ?_
  refine s_sld C S dL_law_667 ?_
  refine s_callM C R0 V (kX13_memory (xl X) 0 (by decide) (xs (i + (1 : Int32)).toNatClampNeg)) mmX13_memory miX13_memory q2287 (rc26 (Nat.le_trans (by decide) V)) (by decide) rfl rfl rfl (Nat.le_of_ble_eq_true rfl) ⟨Nat.le_of_ble_eq_true rfl, Nat.le_of_ble_eq_true rfl, by omega, by omega⟩ dL_law_668 (fun x4 μ3 => ?_)
  refine g_st (st' := [.int x4]) rfl ?_
  refine s_istore (L' := [(6, .int x4), (5, .int x2), (4, .int i), (0, .ref bs), (1, .ref (xa X 0 0)), (2, .ref (xa X 26 0)), (3, .ref (xa X 31 0))]) C dL_law_671 (hN 6 (by decide)) rfl ?_
  refine s_aload_n C dL_law_673 rfl 5 rfl ?_
  refine s_callM C R0 V (kX13_thrown (xl X) 0 (by decide)) mmX13_thrown miX13_thrown q2229 (rc26 (Nat.le_trans (by decide) V)) (by decide) rfl rfl rfl (Nat.le_of_ble_eq_true rfl) ⟨Nat.le_of_ble_eq_true rfl, Nat.le_of_ble_eq_true rfl, by omega, by omega⟩ dL_law_674 (fun x6 μ5 => ?_)
  refine g_st (st' := [.int x6]) rfl ?_
  refine s_iload C dL_law_677 1 rfl ?_
  refine s_icmp_eq (tgt := 684) C dL_law_679 (by decide) (fun c7 => ?_) (fun c7 => ?_)
  ·
    refine g_jn (P := fun j701 => ∀ (μ8 : Mem), G X r0 (ca + 1) (sl + 6) μ8 701 [(0, .ref bs), (1, .ref (xa X 0 0)), (2, .ref (xa X 26 0)), (3, .ref (xa X 31 0)), (4, .int i)] [] (j701 μ8)) ?_ (fun j701 hj701 => ?_)
    · intro μ8
      refine s_goto (tgt := 2636) C dL_law_701 (by decide) ?_
      exact g_endL (ca1 := ca + 1) (sl1 := sl + 6) (by omega) (by omega) [4, 0, 1, 2, 3] rfl H0
    refine s_iload C dL_law_684 1 rfl ?_
    refine s_if_ne (tgt := 701) C dL_law_686 (by decide) (fun c9 => ?_) (fun c9 => ?_)
    ·
      exact g_wid (ca1 := ca + 1) (sl1 := sl + 6) (by omega) (by omega) <| g_sub [3, 4, 5, 6, 2] rfl (hj701 μ5)
    ·
      refine s_aload_n C dL_law_689 rfl 6 rfl ?_
      refine s_iconst (v := (0 : Int32)) C dL_law_690 (by decide) ?_
      refine s_lald C (ag31 V) (by decide) dL_law_691 ?_
      refine s_iload C dL_law_692 0 rfl ?_
      refine s_i2l C dL_law_694 ?_
      refine s_lcmp C dL_law_695 ?_
      refine s_if_eq (tgt := 701) C dL_law_696 (by decide) (fun c10 => ?_) (fun c10 => ?_)
      ·
        exact g_wid (ca1 := ca + 1) (sl1 := sl + 6) (by omega) (by omega) <| g_sub [3, 4, 5, 6, 2] rfl (hj701 μ5)
      ·
        refine s_iconst (v := (0 : Int32)) C dL_law_699 (by decide) ?_
        exact g_none
  ·
    refine s_iconst (v := (0 : Int32)) C dL_law_682 (by decide) ?_
    exact g_none

