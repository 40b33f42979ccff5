/-! THE LAW'S CASES COME TO THEIR ENDS -/
theorem kr_sav {μ : Mem} : KR μ (savC μ) := ⟨fun κ n k h1 h2 => by
    refine sav_out (by omega) (Or.inl ?_)
    unfold wd
    rw [if_neg (by omega), if_neg (by omega), if_neg (by omega), if_neg (by omega)], fun _ _ _ _ => rfl⟩
theorem kc_sav {ν : Mem} : KC ν (savM ν) := by
  refine ⟨fun κ n k h => ?_, fun κ n k h => rfl⟩
  unfold savM
  rw [wI_at, if_neg (by omega)]
  show (if κ = 27 ∧ n = 3 ∧ 700 * 0 ≤ k ∧ k < 700 * 0 + 700 then _ else (wI ν 26 0 6 0).1 κ n k) = _
  rw [if_neg (by omega), wI_at, if_neg (by omega)]
theorem save_pair {p : Nat} {μ : Mem} (h : Rel p μ) (hI : Inv2 μ) : ∃ μ', (bnd (fX12_saveSnapshot 3000 0 μ) fun _ μ1 => bndJ μ1 (fX13_saveSnapshot 3000 0 (kJ μ μ1)) fun _ μ2 => some μ2) = some μ' ∧ Inv μ' := by
  have e1 : fX12_saveSnapshot 3000 0 μ = some ((), savC μ) := c_save h 2995
  have e2 : fX13_saveSnapshot 3000 0 (kJ μ (savC μ)) = some ((), savM (kJ μ (savC μ))) := m_save (ν := kJ μ (savC μ)) 2299
  have kr : KR μ (kJ μ (savC μ)) := ⟨fun κ n q a b => (kr_sav (μ := μ)).1 κ n q a b, fun κ n q a => (kr_sav (μ := μ)).2 κ n q a⟩
  have r : Rel2 p (savC μ) (savM (kJ μ (savC μ))) := rel2_save (rel2_eq kc_rfl kr h)
  have kc : KC (kJ μ (savC μ)) (savM (kJ μ (savC μ))) := kc_sav (ν := kJ μ (savC μ))
  refine ⟨kJ (savC μ) (savM (kJ μ (savC μ))), ?_, p, rel2_eq (μ' := savM (kJ μ (savC μ))) ⟨kc.1, kc.2⟩ kr_rfl r, inv2_kc kc (inv2_kr kr hI)⟩
  rw [e1, bnd_some, e2, bndJ_some]
theorem lm_0 {xs : Nat → Int32} {SL k : Nat} {μ : Mem} (h3 : 6 * k + 6 ≤ SL) (h4 : SL ≤ 3072) (hInv : Inv μ) : ∃ μ', lcs_0 3000 3000 xs SL (nI (6 * k)) μ = some μ' ∧ Inv μ' := by
  obtain ⟨p, h, hI⟩ := hInv
  unfold lcs_0
  try simp only [jn_eq, nm_eq, ckc_1 h3 h4, ckc_2 h3 h4, ckc_3 h3 h4, ckc_4 h3 h4, ckc_5 h3 h4]
  have hp : PrN μ (fX12_feed 3000 0 (xs (nI (6 * k) + (1 : Int32)).toNatClampNeg) (xs (nI (6 * k) + (2 : Int32)).toNatClampNeg) (xs (nI (6 * k) + (3 : Int32)).toNatClampNeg) (xs (nI (6 * k) + (4 : Int32)).toNatClampNeg) (xs (nI (6 * k) + (5 : Int32)).toNatClampNeg) μ) (fX13_feed 3000 0 (xs (nI (6 * k) + (1 : Int32)).toNatClampNeg) (xs (nI (6 * k) + (2 : Int32)).toNatClampNeg) (xs (nI (6 * k) + (3 : Int32)).toNatClampNeg) (xs (nI (6 * k) + (4 : Int32)).toNatClampNeg) (xs (nI (6 * k) + (5 : Int32)).toNatClampNeg)) := prN_op h hI fun ν h2 => op_feed h2 _ _ _ _ _ 2995 2979
  exact law_N hp
theorem lk_0 : CaseOK Inv 236 := case_of (mc := 0) (ms := 0) (by decide) (by decide) lcs_0 (fun X hT V C R0 hN bs SL xs S fu gu ca sl hc hs i μ r0 H0 => lcz_0 hT V C R0 hN S fu gu hc hs i μ r0 H0) fun xs SL k μ h3 h4 hI => lm_0 h3 h4 hI
theorem lm_1 {xs : Nat → Int32} {SL k : Nat} {μ : Mem} (h3 : 6 * k + 6 ≤ SL) (h4 : SL ≤ 3072) (hInv : Inv μ) : ∃ μ', lcs_1 3000 3000 xs SL (nI (6 * k)) μ = some μ' ∧ Inv μ' := by
  obtain ⟨p, h, hI⟩ := hInv
  unfold lcs_1
  unfold fL_load
  try simp only [jn_eq, nm_eq, ckc_1 h3 h4]
  have hp : Pr AnsI μ (fX12_load 3000 0 (xs (nI (6 * k) + (1 : Int32)).toNatClampNeg) μ) (fX13_load 3000 0 (xs (nI (6 * k) + (1 : Int32)).toNatClampNeg)) := op_d h hI fun ν h2 => op_load h2 _ 999
  exact law_int hp _ (fun v => v.toInt64) (fun v => v.toInt64) hd_I (vl_I (f := fun v => v.toInt64))
theorem lk_1 : CaseOK Inv 309 := case_of (mc := 1) (ms := 6) (by decide) (by decide) lcs_1 (fun X hT V C R0 hN bs SL xs S fu gu ca sl hc hs i μ r0 H0 => lcz_1 hT V C R0 hN S fu gu hc hs i μ r0 H0) fun xs SL k μ h3 h4 hI => lm_1 h3 h4 hI
theorem lm_2 {xs : Nat → Int32} {SL k : Nat} {μ : Mem} (h3 : 6 * k + 6 ≤ SL) (h4 : SL ≤ 3072) (hInv : Inv μ) : ∃ μ', lcs_2 3000 3000 xs SL (nI (6 * k)) μ = some μ' ∧ Inv μ' := by
  obtain ⟨p, h, hI⟩ := hInv
  unfold lcs_2
  try simp only [jn_eq, nm_eq]
  have hp : PrN μ (fX12_errorPosition 0 μ) (fX13_errorPosition 0) := prN_ask hI (ask_errorPosition h)
  exact law_N hp
theorem lk_2 : CaseOK Inv 365 := case_of (mc := 0) (ms := 0) (by decide) (by decide) lcs_2 (fun X hT V C R0 hN bs SL xs S fu gu ca sl hc hs i μ r0 H0 => lcz_2 hT V C R0 hN S fu gu hc hs i μ r0 H0) fun xs SL k μ h3 h4 hI => lm_2 h3 h4 hI
theorem lm_3 {xs : Nat → Int32} {SL k : Nat} {μ : Mem} (h3 : 6 * k + 6 ≤ SL) (h4 : SL ≤ 3072) (hInv : Inv μ) : ∃ μ', lcs_3 3000 3000 xs SL (nI (6 * k)) μ = some μ' ∧ Inv μ' := by
  obtain ⟨p, h, hI⟩ := hInv
  unfold lcs_3
  try simp only [jn_eq, nm_eq]
  have hp : PrN μ (fX12_instructionCount 0 μ) (fX13_instructionCount 0) := prN_ask hI (ask_instructionCount h)
  exact law_N hp
theorem lk_3 : CaseOK Inv 378 := case_of (mc := 0) (ms := 0) (by decide) (by decide) lcs_3 (fun X hT V C R0 hN bs SL xs S fu gu ca sl hc hs i μ r0 H0 => lcz_3 hT V C R0 hN S fu gu hc hs i μ r0 H0) fun xs SL k μ h3 h4 hI => lm_3 h3 h4 hI
theorem lm_4 {xs : Nat → Int32} {SL k : Nat} {μ : Mem} (h3 : 6 * k + 6 ≤ SL) (h4 : SL ≤ 3072) (hInv : Inv μ) : ∃ μ', lcs_4 3000 3000 xs SL (nI (6 * k)) μ = some μ' ∧ Inv μ' := by
  obtain ⟨p, h, hI⟩ := hInv
  unfold lcs_4
  try simp only [jn_eq, nm_eq]
  have hp : PrN μ (fX12_engines 3000 0 μ) (fX13_engines 3000 0) := prN_ask hI (ask_engines h 2995)
  exact law_N hp
theorem lk_4 : CaseOK Inv 391 := case_of (mc := 0) (ms := 0) (by decide) (by decide) lcs_4 (fun X hT V C R0 hN bs SL xs S fu gu ca sl hc hs i μ r0 H0 => lcz_4 hT V C R0 hN S fu gu hc hs i μ r0 H0) fun xs SL k μ h3 h4 hI => lm_4 h3 h4 hI
theorem lm_5 {xs : Nat → Int32} {SL k : Nat} {μ : Mem} (h3 : 6 * k + 6 ≤ SL) (h4 : SL ≤ 3072) (hInv : Inv μ) : ∃ μ', lcs_5 3000 3000 xs SL (nI (6 * k)) μ = some μ' ∧ Inv μ' := by
  obtain ⟨p, h, hI⟩ := hInv
  unfold lcs_5
  try simp only [jn_eq, nm_eq]
  have hp : PrN μ (fX12_clock 0 μ) (fX13_clock 0) := prN_ask hI (ask_clock h)
  exact law_N hp
theorem lk_5 : CaseOK Inv 404 := case_of (mc := 0) (ms := 0) (by decide) (by decide) lcs_5 (fun X hT V C R0 hN bs SL xs S fu gu ca sl hc hs i μ r0 H0 => lcz_5 hT V C R0 hN S fu gu hc hs i μ r0 H0) fun xs SL k μ h3 h4 hI => lm_5 h3 h4 hI
theorem lm_6 {xs : Nat → Int32} {SL k : Nat} {μ : Mem} (h3 : 6 * k + 6 ≤ SL) (h4 : SL ≤ 3072) (hInv : Inv μ) : ∃ μ', lcs_6 3000 3000 xs SL (nI (6 * k)) μ = some μ' ∧ Inv μ' := by
  obtain ⟨p, h, hI⟩ := hInv
  unfold lcs_6
  unfold fL_level
  try simp only [jn_eq, nm_eq, ckc_1 h3 h4]
  have hp : Pr Ans μ (fX12_level 0 (xs (nI (6 * k) + (1 : Int32)).toNatClampNeg) μ) (fX13_level 0 (xs (nI (6 * k) + (1 : Int32)).toNatClampNeg)) := pr_ask hI (ask_level h _)
  exact law_int hp _ (fun v => v.toInt64) (fun v => v.toInt64) (hd_1 (ek_level rfl)) (vl_A (f := fun v => v.toInt64))
theorem lk_6 : CaseOK Inv 417 := case_of (mc := 1) (ms := 6) (by decide) (by decide) lcs_6 (fun X hT V C R0 hN bs SL xs S fu gu ca sl hc hs i μ r0 H0 => lcz_6 hT V C R0 hN S fu gu hc hs i μ r0 H0) fun xs SL k μ h3 h4 hI => lm_6 h3 h4 hI
theorem lm_7 {xs : Nat → Int32} {SL k : Nat} {μ : Mem} (h3 : 6 * k + 6 ≤ SL) (h4 : SL ≤ 3072) (hInv : Inv μ) : ∃ μ', lcs_7 3000 3000 xs SL (nI (6 * k)) μ = some μ' ∧ Inv μ' := by
  obtain ⟨p, h, hI⟩ := hInv
  unfold lcs_7
  unfold fL_latch
  try simp only [jn_eq, nm_eq, ckc_1 h3 h4]
  have hp : Pr Ans μ (fX12_latch 0 (xs (nI (6 * k) + (1 : Int32)).toNatClampNeg) μ) (fX13_latch 0 (xs (nI (6 * k) + (1 : Int32)).toNatClampNeg)) := pr_ask hI (ask_latch h _)
  exact law_int hp _ (fun v => v.toInt64) (fun v => v.toInt64) (hd_1 (ek_latch rfl)) (vl_A (f := fun v => v.toInt64))
theorem lk_7 : CaseOK Inv 473 := case_of (mc := 1) (ms := 6) (by decide) (by decide) lcs_7 (fun X hT V C R0 hN bs SL xs S fu gu ca sl hc hs i μ r0 H0 => lcz_7 hT V C R0 hN S fu gu hc hs i μ r0 H0) fun xs SL k μ h3 h4 hI => lm_7 h3 h4 hI
theorem lm_8 {xs : Nat → Int32} {SL k : Nat} {μ : Mem} (h3 : 6 * k + 6 ≤ SL) (h4 : SL ≤ 3072) (hInv : Inv μ) : ∃ μ', lcs_8 3000 3000 xs SL (nI (6 * k)) μ = some μ' ∧ Inv μ' := by
  obtain ⟨p, h, hI⟩ := hInv
  unfold lcs_8
  unfold fL_isOutput
  try simp only [jn_eq, nm_eq, ckc_1 h3 h4]
  have hp : Pr Ans μ (fX12_isOutput 0 (xs (nI (6 * k) + (1 : Int32)).toNatClampNeg) μ) (fX13_isOutput 0 (xs (nI (6 * k) + (1 : Int32)).toNatClampNeg)) := pr_ask hI (ask_isOutput h _)
  exact law_bool hp _ (hd_1 (ek_isOutput rfl)) (vl_A (f := zb))
theorem lk_8 : CaseOK Inv 529 := case_of (mc := 1) (ms := 6) (by decide) (by decide) lcs_8 (fun X hT V C R0 hN bs SL xs S fu gu ca sl hc hs i μ r0 H0 => lcz_8 hT V C R0 hN S fu gu hc hs i μ r0 H0) fun xs SL k μ h3 h4 hI => lm_8 h3 h4 hI
theorem lm_9 {xs : Nat → Int32} {SL k : Nat} {μ : Mem} (h3 : 6 * k + 6 ≤ SL) (h4 : SL ≤ 3072) (hInv : Inv μ) : ∃ μ', lcs_9 3000 3000 xs SL (nI (6 * k)) μ = some μ' ∧ Inv μ' := by
  obtain ⟨p, h, hI⟩ := hInv
  unfold lcs_9
  unfold fL_flag
  try simp only [jn_eq, nm_eq, ckc_1 h3 h4]
  have hp : Pr Ans μ (fX12_flag 0 (xs (nI (6 * k) + (1 : Int32)).toNatClampNeg) μ) (fX13_flag 0 (xs (nI (6 * k) + (1 : Int32)).toNatClampNeg)) := pr_ask hI (ask_flag h _)
  exact law_int hp _ (fun v => v.toInt64) (fun v => v.toInt64) (hd_1 (ek_flag rfl)) (vl_A (f := fun v => v.toInt64))
theorem lk_9 : CaseOK Inv 592 := case_of (mc := 1) (ms := 6) (by decide) (by decide) lcs_9 (fun X hT V C R0 hN bs SL xs S fu gu ca sl hc hs i μ r0 H0 => lcz_9 hT V C R0 hN S fu gu hc hs i μ r0 H0) fun xs SL k μ h3 h4 hI => lm_9 h3 h4 hI
theorem lm_10 {xs : Nat → Int32} {SL k : Nat} {μ : Mem} (h3 : 6 * k + 6 ≤ SL) (h4 : SL ≤ 3072) (hInv : Inv μ) : ∃ μ', lcs_10 3000 3000 xs SL (nI (6 * k)) μ = some μ' ∧ Inv μ' := by
  obtain ⟨p, h, hI⟩ := hInv
  unfold lcs_10
  unfold fL_memory
  try simp only [jn_eq, nm_eq, ckc_1 h3 h4]
  have hp : Pr Ans μ (fX12_memory 0 (xs (nI (6 * k) + (1 : Int32)).toNatClampNeg) μ) (fX13_memory 0 (xs (nI (6 * k) + (1 : Int32)).toNatClampNeg)) := pr_ask hI (ask_memory h _)
  exact law_int hp _ (fun v => v.toInt64) (fun v => v.toInt64) (hd_1 (ek_memory rfl)) (vl_A (f := fun v => v.toInt64))
theorem lk_10 : CaseOK Inv 648 := case_of (mc := 1) (ms := 6) (by decide) (by decide) lcs_10 (fun X hT V C R0 hN bs SL xs S fu gu ca sl hc hs i μ r0 H0 => lcz_10 hT V C R0 hN S fu gu hc hs i μ r0 H0) fun xs SL k μ h3 h4 hI => lm_10 h3 h4 hI
theorem lm_11 {xs : Nat → Int32} {SL k : Nat} {μ : Mem} (h3 : 6 * k + 6 ≤ SL) (h4 : SL ≤ 3072) (hInv : Inv μ) : ∃ μ', lcs_11 3000 3000 xs SL (nI (6 * k)) μ = some μ' ∧ Inv μ' := by
  obtain ⟨p, h, hI⟩ := hInv
  unfold lcs_11
  try simp only [jn_eq, nm_eq]
  have hp : PrN μ (fX12_portOwner 0 μ) (fX13_portOwner 0) := prN_ask hI (ask_portOwner h)
  exact law_N hp
theorem lk_11 : CaseOK Inv 704 := case_of (mc := 0) (ms := 0) (by decide) (by decide) lcs_11 (fun X hT V C R0 hN bs SL xs S fu gu ca sl hc hs i μ r0 H0 => lcz_11 hT V C R0 hN S fu gu hc hs i μ r0 H0) fun xs SL k μ h3 h4 hI => lm_11 h3 h4 hI
theorem lm_12 {xs : Nat → Int32} {SL k : Nat} {μ : Mem} (h3 : 6 * k + 6 ≤ SL) (h4 : SL ≤ 3072) (hInv : Inv μ) : ∃ μ', lcs_12 3000 3000 xs SL (nI (6 * k)) μ = some μ' ∧ Inv μ' := by
  obtain ⟨p, h, hI⟩ := hInv
  unfold lcs_12
  unfold fL_pc
  try simp only [jn_eq, nm_eq, ckc_1 h3 h4]
  have hp : Pr Ans μ (fX12_pc 0 (xs (nI (6 * k) + (1 : Int32)).toNatClampNeg) μ) (fX13_pc 0 (xs (nI (6 * k) + (1 : Int32)).toNatClampNeg)) := pr_ask hI (ask_pc h _)
  exact law_int hp _ (fun v => v.toInt64) (fun v => v.toInt64) (hd_1 (ek_pc rfl)) (vl_A (f := fun v => v.toInt64))
theorem lk_12 : CaseOK Inv 717 := case_of (mc := 1) (ms := 6) (by decide) (by decide) lcs_12 (fun X hT V C R0 hN bs SL xs S fu gu ca sl hc hs i μ r0 H0 => lcz_12 hT V C R0 hN S fu gu hc hs i μ r0 H0) fun xs SL k μ h3 h4 hI => lm_12 h3 h4 hI
theorem lm_13 {xs : Nat → Int32} {SL k : Nat} {μ : Mem} (h3 : 6 * k + 6 ≤ SL) (h4 : SL ≤ 3072) (hInv : Inv μ) : ∃ μ', lcs_13 3000 3000 xs SL (nI (6 * k)) μ = some μ' ∧ Inv μ' := by
  obtain ⟨p, h, hI⟩ := hInv
  unfold lcs_13
  unfold fL_register
  try simp only [jn_eq, nm_eq, ckc_1 h3 h4, ckc_2 h3 h4]
  have hp : Pr Ans μ (fX12_register 0 (xs (nI (6 * k) + (1 : Int32)).toNatClampNeg) (xs (nI (6 * k) + (2 : Int32)).toNatClampNeg) μ) (fX13_register 0 (xs (nI (6 * k) + (1 : Int32)).toNatClampNeg) (xs (nI (6 * k) + (2 : Int32)).toNatClampNeg)) := pr_ask hI (ask_register h _ _)
  exact law_int hp _ (fun v => v.toInt64) (fun v => v.toInt64) (hd_1 (ek_register rfl)) (vl_A (f := fun v => v.toInt64))
theorem lk_13 : CaseOK Inv 773 := case_of (mc := 2) (ms := 12) (by decide) (by decide) lcs_13 (fun X hT V C R0 hN bs SL xs S fu gu ca sl hc hs i μ r0 H0 => lcz_13 hT V C R0 hN S fu gu hc hs i μ r0 H0) fun xs SL k μ h3 h4 hI => lm_13 h3 h4 hI
theorem lm_14 {xs : Nat → Int32} {SL k : Nat} {μ : Mem} (h3 : 6 * k + 6 ≤ SL) (h4 : SL ≤ 3072) (hInv : Inv μ) : ∃ μ', lcs_14 3000 3000 xs SL (nI (6 * k)) μ = some μ' ∧ Inv μ' := by
  obtain ⟨p, h, hI⟩ := hInv
  unfold lcs_14
  unfold fL_fill
  try simp only [jn_eq, nm_eq, ckc_1 h3 h4]
  have hp : Pr Ans μ (fX12_fill 0 (xs (nI (6 * k) + (1 : Int32)).toNatClampNeg) μ) (fX13_fill 0 (xs (nI (6 * k) + (1 : Int32)).toNatClampNeg)) := pr_ask hI (ask_fill h _)
  exact law_int hp _ (fun v => v.toInt64) (fun v => v.toInt64) (hd_1 (ek_fill rfl)) (vl_A (f := fun v => v.toInt64))
theorem lk_14 : CaseOK Inv 841 := case_of (mc := 1) (ms := 6) (by decide) (by decide) lcs_14 (fun X hT V C R0 hN bs SL xs S fu gu ca sl hc hs i μ r0 H0 => lcz_14 hT V C R0 hN S fu gu hc hs i μ r0 H0) fun xs SL k μ h3 h4 hI => lm_14 h3 h4 hI
theorem lm_15 {xs : Nat → Int32} {SL k : Nat} {μ : Mem} (h3 : 6 * k + 6 ≤ SL) (h4 : SL ≤ 3072) (hInv : Inv μ) : ∃ μ', lcs_15 3000 3000 xs SL (nI (6 * k)) μ = some μ' ∧ Inv μ' := by
  obtain ⟨p, h, hI⟩ := hInv
  unfold lcs_15
  unfold fL_spent
  try simp only [jn_eq, nm_eq, ckc_1 h3 h4]
  have hp : Pr Ans μ (fX12_spent 0 (xs (nI (6 * k) + (1 : Int32)).toNatClampNeg) μ) (fX13_spent 0 (xs (nI (6 * k) + (1 : Int32)).toNatClampNeg)) := pr_ask hI (ask_spent h _)
  exact law_int hp _ (fun v => v.toInt64) (fun v => v.toInt64) (hd_1 (ek_spent rfl)) (vl_A (f := fun v => v.toInt64))
theorem lk_15 : CaseOK Inv 897 := case_of (mc := 1) (ms := 6) (by decide) (by decide) lcs_15 (fun X hT V C R0 hN bs SL xs S fu gu ca sl hc hs i μ r0 H0 => lcz_15 hT V C R0 hN S fu gu hc hs i μ r0 H0) fun xs SL k μ h3 h4 hI => lm_15 h3 h4 hI
theorem lm_16 {xs : Nat → Int32} {SL k : Nat} {μ : Mem} (h3 : 6 * k + 6 ≤ SL) (h4 : SL ≤ 3072) (hInv : Inv μ) : ∃ μ', lcs_16 3000 3000 xs SL (nI (6 * k)) μ = some μ' ∧ Inv μ' := by
  obtain ⟨p, h, hI⟩ := hInv
  unfold lcs_16
  unfold fL_delayLeft
  try simp only [jn_eq, nm_eq, ckc_1 h3 h4]
  have hp : Pr Ans μ (fX12_delayLeft 0 (xs (nI (6 * k) + (1 : Int32)).toNatClampNeg) μ) (fX13_delayLeft 0 (xs (nI (6 * k) + (1 : Int32)).toNatClampNeg)) := pr_ask hI (ask_delayLeft h _)
  exact law_int hp _ (fun v => v.toInt64) (fun v => v.toInt64) (hd_1 (ek_delayLeft rfl)) (vl_A (f := fun v => v.toInt64))
theorem lk_16 : CaseOK Inv 953 := case_of (mc := 1) (ms := 6) (by decide) (by decide) lcs_16 (fun X hT V C R0 hN bs SL xs S fu gu ca sl hc hs i μ r0 H0 => lcz_16 hT V C R0 hN S fu gu hc hs i μ r0 H0) fun xs SL k μ h3 h4 hI => lm_16 h3 h4 hI
theorem lm_17 {xs : Nat → Int32} {SL k : Nat} {μ : Mem} (h3 : 6 * k + 6 ≤ SL) (h4 : SL ≤ 3072) (hInv : Inv μ) : ∃ μ', lcs_17 3000 3000 xs SL (nI (6 * k)) μ = some μ' ∧ Inv μ' := by
  obtain ⟨p, h, hI⟩ := hInv
  unfold lcs_17
  unfold fL_stall
  try simp only [jn_eq, nm_eq, ckc_1 h3 h4]
  have hp : Pr Ans μ (fX12_stall 0 (xs (nI (6 * k) + (1 : Int32)).toNatClampNeg) μ) (fX13_stall 0 (xs (nI (6 * k) + (1 : Int32)).toNatClampNeg)) := pr_ask hI (ask_stall h _)
  exact law_int hp _ (fun v => v.toInt64) (fun v => v.toInt64) (hd_1 (ek_stall rfl)) (vl_A (f := fun v => v.toInt64))
theorem lk_17 : CaseOK Inv 1009 := case_of (mc := 1) (ms := 6) (by decide) (by decide) lcs_17 (fun X hT V C R0 hN bs SL xs S fu gu ca sl hc hs i μ r0 H0 => lcz_17 hT V C R0 hN S fu gu hc hs i μ r0 H0) fun xs SL k μ h3 h4 hI => lm_17 h3 h4 hI
theorem lm_18 {xs : Nat → Int32} {SL k : Nat} {μ : Mem} (h3 : 6 * k + 6 ≤ SL) (h4 : SL ≤ 3072) (hInv : Inv μ) : ∃ μ', lcs_18 3000 3000 xs SL (nI (6 * k)) μ = some μ' ∧ Inv μ' := by
  obtain ⟨p, h, hI⟩ := hInv
  unfold lcs_18
  unfold fL_isEnabled
  try simp only [jn_eq, nm_eq, ckc_1 h3 h4]
  have hp : Pr Ans μ (fX12_isEnabled 0 (xs (nI (6 * k) + (1 : Int32)).toNatClampNeg) μ) (fX13_isEnabled 0 (xs (nI (6 * k) + (1 : Int32)).toNatClampNeg)) := pr_ask hI (ask_isEnabled h _)
  exact law_bool hp _ (hd_1 (ek_isEnabled rfl)) (vl_A (f := zb))
theorem lk_18 : CaseOK Inv 1065 := case_of (mc := 1) (ms := 6) (by decide) (by decide) lcs_18 (fun X hT V C R0 hN bs SL xs S fu gu ca sl hc hs i μ r0 H0 => lcz_18 hT V C R0 hN S fu gu hc hs i μ r0 H0) fun xs SL k μ h3 h4 hI => lm_18 h3 h4 hI
theorem lm_19 {xs : Nat → Int32} {SL k : Nat} {μ : Mem} (h3 : 6 * k + 6 ≤ SL) (h4 : SL ≤ 3072) (hInv : Inv μ) : ∃ μ', lcs_19 3000 3000 xs SL (nI (6 * k)) μ = some μ' ∧ Inv μ' := by
  obtain ⟨p, h, hI⟩ := hInv
  unfold lcs_19
  unfold fL_queueSize
  try simp only [jn_eq, nm_eq, ckc_1 h3 h4, ckc_2 h3 h4]
  by_cases hz : (xs (nI (6 * k) + (2 : Int32)).toNatClampNeg) = 0
  · simp only [if_pos hz]
    have hp : Pr Ans μ (fX12_queueSize 0 (xs (nI (6 * k) + (1 : Int32)).toNatClampNeg) (0 : Int32) μ) (fX13_queueSize 0 (xs (nI (6 * k) + (1 : Int32)).toNatClampNeg) (0 : Int32)) := pr_ask hI (ask_queueSize h _ _)
    exact law_int hp _ (fun v => v.toInt64) (fun v => v.toInt64) (hd_1 (ek_queueSize rfl)) (vl_A (f := fun v => v.toInt64))
  · simp only [if_neg hz]
    have hp : Pr Ans μ (fX12_queueSize 0 (xs (nI (6 * k) + (1 : Int32)).toNatClampNeg) (1 : Int32) μ) (fX13_queueSize 0 (xs (nI (6 * k) + (1 : Int32)).toNatClampNeg) (1 : Int32)) := pr_ask hI (ask_queueSize h _ _)
    exact law_int hp _ (fun v => v.toInt64) (fun v => v.toInt64) (hd_1 (ek_queueSize rfl)) (vl_A (f := fun v => v.toInt64))
theorem lk_19 : CaseOK Inv 1128 := case_of (mc := 1) (ms := 6) (by decide) (by decide) lcs_19 (fun X hT V C R0 hN bs SL xs S fu gu ca sl hc hs i μ r0 H0 => lcz_19 hT V C R0 hN S fu gu hc hs i μ r0 H0) fun xs SL k μ h3 h4 hI => lm_19 h3 h4 hI
theorem lm_20 {xs : Nat → Int32} {SL k : Nat} {μ : Mem} (h3 : 6 * k + 6 ≤ SL) (h4 : SL ≤ 3072) (hInv : Inv μ) : ∃ μ', lcs_20 3000 3000 xs SL (nI (6 * k)) μ = some μ' ∧ Inv μ' := by
  obtain ⟨p, h, hI⟩ := hInv
  unfold lcs_20
  unfold fL_queued
  try simp only [jn_eq, nm_eq, ckc_1 h3 h4, ckc_2 h3 h4, ckc_3 h3 h4]
  by_cases hz : (xs (nI (6 * k) + (2 : Int32)).toNatClampNeg) = 0
  · simp only [if_pos hz]
    have hp : Pr AnsL μ (fX12_queued 0 (xs (nI (6 * k) + (1 : Int32)).toNatClampNeg) (0 : Int32) (xs (nI (6 * k) + (3 : Int32)).toNatClampNeg) μ) (fX13_queued 0 (xs (nI (6 * k) + (1 : Int32)).toNatClampNeg) (0 : Int32) (xs (nI (6 * k) + (3 : Int32)).toNatClampNeg)) := pr_askL hI (ask_queued h _ _ _)
    exact law_int hp _ (fun v => v) (fun v => v) (hd_L (ek_queued rfl)) vl_L
  · simp only [if_neg hz]
    have hp : Pr AnsL μ (fX12_queued 0 (xs (nI (6 * k) + (1 : Int32)).toNatClampNeg) (1 : Int32) (xs (nI (6 * k) + (3 : Int32)).toNatClampNeg) μ) (fX13_queued 0 (xs (nI (6 * k) + (1 : Int32)).toNatClampNeg) (1 : Int32) (xs (nI (6 * k) + (3 : Int32)).toNatClampNeg)) := pr_askL hI (ask_queued h _ _ _)
    exact law_int hp _ (fun v => v) (fun v => v) (hd_L (ek_queued rfl)) vl_L
theorem lk_20 : CaseOK Inv 1212 := case_of (mc := 2) (ms := 12) (by decide) (by decide) lcs_20 (fun X hT V C R0 hN bs SL xs S fu gu ca sl hc hs i μ r0 H0 => lcz_20 hT V C R0 hN S fu gu hc hs i μ r0 H0) fun xs SL k μ h3 h4 hI => lm_20 h3 h4 hI
theorem lm_21 {xs : Nat → Int32} {SL k : Nat} {μ : Mem} (h3 : 6 * k + 6 ≤ SL) (h4 : SL ≤ 3072) (hInv : Inv μ) : ∃ μ', lcs_21 3000 3000 xs SL (nI (6 * k)) μ = some μ' ∧ Inv μ' := by
  obtain ⟨p, h, hI⟩ := hInv
  unfold lcs_21
  unfold fL_count
  try simp only [jn_eq, nm_eq, ckc_1 h3 h4, ckc_2 h3 h4]
  have hp : Pr Ans μ (fX12_count 0 (xs (nI (6 * k) + (1 : Int32)).toNatClampNeg) (xs (nI (6 * k) + (2 : Int32)).toNatClampNeg) μ) (fX13_count 0 (xs (nI (6 * k) + (1 : Int32)).toNatClampNeg) (xs (nI (6 * k) + (2 : Int32)).toNatClampNeg)) := pr_ask hI (ask_count h _ _)
  exact law_int hp _ (fun v => v.toInt64) (fun v => v.toInt64) (hd_1 (ek_count rfl)) (vl_A (f := fun v => v.toInt64))
theorem lk_21 : CaseOK Inv 1307 := case_of (mc := 2) (ms := 12) (by decide) (by decide) lcs_21 (fun X hT V C R0 hN bs SL xs S fu gu ca sl hc hs i μ r0 H0 => lcz_21 hT V C R0 hN S fu gu hc hs i μ r0 H0) fun xs SL k μ h3 h4 hI => lm_21 h3 h4 hI
theorem lm_22 {xs : Nat → Int32} {SL k : Nat} {μ : Mem} (h3 : 6 * k + 6 ≤ SL) (h4 : SL ≤ 3072) (hInv : Inv μ) : ∃ μ', lcs_22 3000 3000 xs SL (nI (6 * k)) μ = some μ' ∧ Inv μ' := by
  obtain ⟨p, h, hI⟩ := hInv
  unfold lcs_22
  unfold fL_levelAt
  try simp only [jn_eq, nm_eq, ckc_1 h3 h4, ckc_2 h3 h4]
  have hp : Pr Ans μ (fX12_levelAt 0 (xs (nI (6 * k) + (1 : Int32)).toNatClampNeg) (xs (nI (6 * k) + (2 : Int32)).toNatClampNeg) μ) (fX13_levelAt 0 (xs (nI (6 * k) + (1 : Int32)).toNatClampNeg) (xs (nI (6 * k) + (2 : Int32)).toNatClampNeg)) := pr_ask hI (ask_levelAt h _ _)
  exact law_int hp _ (fun v => v.toInt64) (fun v => v.toInt64) (hd_1 (ek_levelAt rfl)) (vl_A (f := fun v => v.toInt64))
theorem lk_22 : CaseOK Inv 1375 := case_of (mc := 2) (ms := 12) (by decide) (by decide) lcs_22 (fun X hT V C R0 hN bs SL xs S fu gu ca sl hc hs i μ r0 H0 => lcz_22 hT V C R0 hN S fu gu hc hs i μ r0 H0) fun xs SL k μ h3 h4 hI => lm_22 h3 h4 hI
theorem lm_23 {xs : Nat → Int32} {SL k : Nat} {μ : Mem} (h3 : 6 * k + 6 ≤ SL) (h4 : SL ≤ 3072) (hInv : Inv μ) : ∃ μ', lcs_23 3000 3000 xs SL (nI (6 * k)) μ = some μ' ∧ Inv μ' := by
  obtain ⟨p, h, hI⟩ := hInv
  unfold lcs_23
  unfold fL_edges
  try simp only [jn_eq, nm_eq, ckc_1 h3 h4]
  have hp : Pr Ans μ (fX12_edges 0 (xs (nI (6 * k) + (1 : Int32)).toNatClampNeg) μ) (fX13_edges 0 (xs (nI (6 * k) + (1 : Int32)).toNatClampNeg)) := pr_ask hI (ask_edges h _)
  exact law_int hp _ (fun v => v.toInt64) (fun v => v.toInt64) (hd_1 (ek_edges rfl)) (vl_A (f := fun v => v.toInt64))
theorem lk_23 : CaseOK Inv 1443 := case_of (mc := 1) (ms := 6) (by decide) (by decide) lcs_23 (fun X hT V C R0 hN bs SL xs S fu gu ca sl hc hs i μ r0 H0 => lcz_23 hT V C R0 hN S fu gu hc hs i μ r0 H0) fun xs SL k μ h3 h4 hI => lm_23 h3 h4 hI
theorem lm_24 {xs : Nat → Int32} {SL k : Nat} {μ : Mem} (h3 : 6 * k + 6 ≤ SL) (h4 : SL ≤ 3072) (hInv : Inv μ) : ∃ μ', lcs_24 3000 3000 xs SL (nI (6 * k)) μ = some μ' ∧ Inv μ' := by
  obtain ⟨p, h, hI⟩ := hInv
  unfold lcs_24
  unfold fL_highTime
  try simp only [jn_eq, nm_eq, ckc_1 h3 h4]
  have hp : Pr Ans μ (fX12_highTime 0 (xs (nI (6 * k) + (1 : Int32)).toNatClampNeg) μ) (fX13_highTime 0 (xs (nI (6 * k) + (1 : Int32)).toNatClampNeg)) := pr_ask hI (ask_highTime h _)
  exact law_int hp _ (fun v => v.toInt64) (fun v => v.toInt64) (hd_1 (ek_highTime rfl)) (vl_A (f := fun v => v.toInt64))
theorem lk_24 : CaseOK Inv 1499 := case_of (mc := 1) (ms := 6) (by decide) (by decide) lcs_24 (fun X hT V C R0 hN bs SL xs S fu gu ca sl hc hs i μ r0 H0 => lcz_24 hT V C R0 hN S fu gu hc hs i μ r0 H0) fun xs SL k μ h3 h4 hI => lm_24 h3 h4 hI
theorem lm_25 {xs : Nat → Int32} {SL k : Nat} {μ : Mem} (h3 : 6 * k + 6 ≤ SL) (h4 : SL ≤ 3072) (hInv : Inv μ) : ∃ μ', lcs_25 3000 3000 xs SL (nI (6 * k)) μ = some μ' ∧ Inv μ' := by
  obtain ⟨p, h, hI⟩ := hInv
  unfold lcs_25
  unfold fL_put
  try simp only [jn_eq, nm_eq, ckc_1 h3 h4, ckc_2 h3 h4]
  have hp : Pr Ans μ (fX12_put 3000 0 (xs (nI (6 * k) + (1 : Int32)).toNatClampNeg) (xs (nI (6 * k) + (2 : Int32)).toNatClampNeg) μ) (fX13_put 3000 0 (xs (nI (6 * k) + (1 : Int32)).toNatClampNeg) (xs (nI (6 * k) + (2 : Int32)).toNatClampNeg)) := op_r h hI fun ν h2 => op_put h2 _ _ 2995 2299
  exact law_int hp _ (fun v => v.toInt64) (fun v => v.toInt64) (hd_1 (ek_put rfl)) (vl_A (f := fun v => v.toInt64))
theorem lk_25 : CaseOK Inv 1555 := case_of (mc := 1) (ms := 6) (by decide) (by decide) lcs_25 (fun X hT V C R0 hN bs SL xs S fu gu ca sl hc hs i μ r0 H0 => lcz_25 hT V C R0 hN S fu gu hc hs i μ r0 H0) fun xs SL k μ h3 h4 hI => lm_25 h3 h4 hI
theorem lm_26 {xs : Nat → Int32} {SL k : Nat} {μ : Mem} (h3 : 6 * k + 6 ≤ SL) (h4 : SL ≤ 3072) (hInv : Inv μ) : ∃ μ', lcs_26 3000 3000 xs SL (nI (6 * k)) μ = some μ' ∧ Inv μ' := by
  obtain ⟨p, h, hI⟩ := hInv
  unfold lcs_26
  unfold fL_take
  try simp only [jn_eq, nm_eq, ckc_1 h3 h4]
  have hp : Pr AnsL μ (fX12_take 3000 0 (xs (nI (6 * k) + (1 : Int32)).toNatClampNeg) μ) (fX13_take 3000 0 (xs (nI (6 * k) + (1 : Int32)).toNatClampNeg)) := op_l h hI fun ν h2 => op_take h2 _ 2995 2299
  exact law_int hp _ (fun v => v) (fun v => v) (hd_L (ek_take rfl)) vl_L
theorem lk_26 : CaseOK Inv 1623 := case_of (mc := 1) (ms := 6) (by decide) (by decide) lcs_26 (fun X hT V C R0 hN bs SL xs S fu gu ca sl hc hs i μ r0 H0 => lcz_26 hT V C R0 hN S fu gu hc hs i μ r0 H0) fun xs SL k μ h3 h4 hI => lm_26 h3 h4 hI
theorem lm_27 {xs : Nat → Int32} {SL k : Nat} {μ : Mem} (h3 : 6 * k + 6 ≤ SL) (h4 : SL ≤ 3072) (hInv : Inv μ) : ∃ μ', lcs_27 3000 3000 xs SL (nI (6 * k)) μ = some μ' ∧ Inv μ' := by
  obtain ⟨p, h, hI⟩ := hInv
  unfold lcs_27
  unfold fL_enable
  try simp only [jn_eq, nm_eq, ckc_1 h3 h4, ckc_2 h3 h4]
  by_cases hz : (xs (nI (6 * k) + (2 : Int32)).toNatClampNeg) = 0
  · simp only [if_pos hz]
    have hp : Pr Ans μ (fX12_enable 3000 0 (xs (nI (6 * k) + (1 : Int32)).toNatClampNeg) (0 : Int32) μ) (fX13_enable 3000 0 (xs (nI (6 * k) + (1 : Int32)).toNatClampNeg) (0 : Int32)) := op_r h hI fun ν h2 => op_enable h2 _ _ (Or.inl rfl) 2995 2299
    exact law_bool hp _ (hd_1 (ek_enable rfl)) (vl_A (f := zb))
  · simp only [if_neg hz]
    have hp : Pr Ans μ (fX12_enable 3000 0 (xs (nI (6 * k) + (1 : Int32)).toNatClampNeg) (1 : Int32) μ) (fX13_enable 3000 0 (xs (nI (6 * k) + (1 : Int32)).toNatClampNeg) (1 : Int32)) := op_r h hI fun ν h2 => op_enable h2 _ _ (Or.inr rfl) 2995 2299
    exact law_bool hp _ (hd_1 (ek_enable rfl)) (vl_A (f := zb))
theorem lk_27 : CaseOK Inv 1678 := case_of (mc := 1) (ms := 6) (by decide) (by decide) lcs_27 (fun X hT V C R0 hN bs SL xs S fu gu ca sl hc hs i μ r0 H0 => lcz_27 hT V C R0 hN S fu gu hc hs i μ r0 H0) fun xs SL k μ h3 h4 hI => lm_27 h3 h4 hI
theorem lm_28 {xs : Nat → Int32} {SL k : Nat} {μ : Mem} (h3 : 6 * k + 6 ≤ SL) (h4 : SL ≤ 3072) (hInv : Inv μ) : ∃ μ', lcs_28 3000 3000 xs SL (nI (6 * k)) μ = some μ' ∧ Inv μ' := by
  obtain ⟨p, h, hI⟩ := hInv
  unfold lcs_28
  unfold fL_restart
  try simp only [jn_eq, nm_eq, ckc_1 h3 h4]
  have hp : Pr Ans μ (fX12_restart 3000 0 (xs (nI (6 * k) + (1 : Int32)).toNatClampNeg) μ) (fX13_restart 3000 0 (xs (nI (6 * k) + (1 : Int32)).toNatClampNeg)) := op_r h hI fun ν h2 => op_restart h2 _ 2995 2299
  exact law_int hp _ (fun v => v.toInt64) (fun v => v.toInt64) (hd_1 (ek_restart rfl)) (vl_A (f := fun v => v.toInt64))
theorem lk_28 : CaseOK Inv 1769 := case_of (mc := 1) (ms := 6) (by decide) (by decide) lcs_28 (fun X hT V C R0 hN bs SL xs S fu gu ca sl hc hs i μ r0 H0 => lcz_28 hT V C R0 hN S fu gu hc hs i μ r0 H0) fun xs SL k μ h3 h4 hI => lm_28 h3 h4 hI
theorem lm_29 {xs : Nat → Int32} {SL k : Nat} {μ : Mem} (h3 : 6 * k + 6 ≤ SL) (h4 : SL ≤ 3072) (hInv : Inv μ) : ∃ μ', lcs_29 3000 3000 xs SL (nI (6 * k)) μ = some μ' ∧ Inv μ' := by
  obtain ⟨p, h, hI⟩ := hInv
  unfold lcs_29
  unfold fL_drive
  try simp only [jn_eq, nm_eq, ckc_1 h3 h4, ckc_2 h3 h4]
  have hp : Pr Ans μ (fX12_drive 3000 0 (xs (nI (6 * k) + (1 : Int32)).toNatClampNeg) (xs (nI (6 * k) + (2 : Int32)).toNatClampNeg) μ) (fX13_drive 3000 0 (xs (nI (6 * k) + (1 : Int32)).toNatClampNeg) (xs (nI (6 * k) + (2 : Int32)).toNatClampNeg)) := op_r h hI fun ν h2 => op_drive h2 _ _ 2995 2299
  exact law_int hp _ (fun v => v.toInt64) (fun v => v.toInt64) (hd_2 (ek_drive (Or.inl rfl) (Or.inr rfl))) (vl_A (f := fun v => v.toInt64))
theorem lk_29 : CaseOK Inv 1825 := case_of (mc := 2) (ms := 12) (by decide) (by decide) lcs_29 (fun X hT V C R0 hN bs SL xs S fu gu ca sl hc hs i μ r0 H0 => lcz_29 hT V C R0 hN S fu gu hc hs i μ r0 H0) fun xs SL k μ h3 h4 hI => lm_29 h3 h4 hI
theorem lm_30 {xs : Nat → Int32} {SL k : Nat} {μ : Mem} (h3 : 6 * k + 6 ≤ SL) (h4 : SL ≤ 3072) (hInv : Inv μ) : ∃ μ', lcs_30 3000 3000 xs SL (nI (6 * k)) μ = some μ' ∧ Inv μ' := by
  obtain ⟨p, h, hI⟩ := hInv
  unfold lcs_30
  unfold fL_schedule
  try simp only [jn_eq, nm_eq, ckc_1 h3 h4, ckc_2 h3 h4, ckc_3 h3 h4]
  have hp : Pr Ans μ (fX12_schedule 3000 0 (xs (nI (6 * k) + (1 : Int32)).toNatClampNeg) (xs (nI (6 * k) + (2 : Int32)).toNatClampNeg) (xs (nI (6 * k) + (3 : Int32)).toNatClampNeg) μ) (fX13_schedule 3000 0 (xs (nI (6 * k) + (1 : Int32)).toNatClampNeg) (xs (nI (6 * k) + (2 : Int32)).toNatClampNeg) (xs (nI (6 * k) + (3 : Int32)).toNatClampNeg)) := op_r h hI fun ν h2 => op_schedule h2 _ _ _ 2995 2299
  exact law_int hp _ (fun v => v.toInt64) (fun v => v.toInt64) (hd_2 (ek_schedule (Or.inl rfl) (Or.inr rfl))) (vl_A (f := fun v => v.toInt64))
theorem lk_30 : CaseOK Inv 1893 := case_of (mc := 3) (ms := 18) (by decide) (by decide) lcs_30 (fun X hT V C R0 hN bs SL xs S fu gu ca sl hc hs i μ r0 H0 => lcz_30 hT V C R0 hN S fu gu hc hs i μ r0 H0) fun xs SL k μ h3 h4 hI => lm_30 h3 h4 hI
theorem lm_31 {xs : Nat → Int32} {SL k : Nat} {μ : Mem} (h3 : 6 * k + 6 ≤ SL) (h4 : SL ≤ 3072) (hInv : Inv μ) : ∃ μ', lcs_31 3000 3000 xs SL (nI (6 * k)) μ = some μ' ∧ Inv μ' := by
  obtain ⟨p, h, hI⟩ := hInv
  unfold lcs_31
  unfold fL_poke
  try simp only [jn_eq, nm_eq, ckc_1 h3 h4, ckc_2 h3 h4]
  have hp : Pr Ans μ (fX12_poke 3000 0 (xs (nI (6 * k) + (1 : Int32)).toNatClampNeg) (xs (nI (6 * k) + (2 : Int32)).toNatClampNeg) μ) (fX13_poke 3000 0 (xs (nI (6 * k) + (1 : Int32)).toNatClampNeg) (xs (nI (6 * k) + (2 : Int32)).toNatClampNeg)) := op_r h hI fun ν h2 => op_poke h2 _ _ 2995 2299
  exact law_int hp _ (fun v => v.toInt64) (fun v => v.toInt64) (hd_1 (ek_poke rfl)) (vl_A (f := fun v => v.toInt64))
theorem lk_31 : CaseOK Inv 1973 := case_of (mc := 1) (ms := 6) (by decide) (by decide) lcs_31 (fun X hT V C R0 hN bs SL xs S fu gu ca sl hc hs i μ r0 H0 => lcz_31 hT V C R0 hN S fu gu hc hs i μ r0 H0) fun xs SL k μ h3 h4 hI => lm_31 h3 h4 hI
theorem lm_32 {xs : Nat → Int32} {SL k : Nat} {μ : Mem} (h3 : 6 * k + 6 ≤ SL) (h4 : SL ≤ 3072) (hInv : Inv μ) : ∃ μ', lcs_32 3000 3000 xs SL (nI (6 * k)) μ = some μ' ∧ Inv μ' := by
  obtain ⟨p, h, hI⟩ := hInv
  unfold lcs_32
  unfold fL_run
  try simp only [jn_eq, nm_eq, ckc_1 h3 h4]
  have hp : Pr AnsI μ (fX12_run 3000 0 (xs (nI (6 * k) + (1 : Int32)).toNatClampNeg) μ) (fX13_run 3000 0 (xs (nI (6 * k) + (1 : Int32)).toNatClampNeg)) := op_i h hI fun ν h2 _ => op_run h2 _ 1999 1999
  exact law_int hp _ (fun v => v.toInt64) (fun v => v.toInt64) hd_I (vl_I (f := fun v => v.toInt64))
theorem lk_32 : CaseOK Inv 2041 := case_of (mc := 1) (ms := 6) (by decide) (by decide) lcs_32 (fun X hT V C R0 hN bs SL xs S fu gu ca sl hc hs i μ r0 H0 => lcz_32 hT V C R0 hN S fu gu hc hs i μ r0 H0) fun xs SL k μ h3 h4 hI => lm_32 h3 h4 hI
theorem lm_33 {xs : Nat → Int32} {SL k : Nat} {μ : Mem} (h3 : 6 * k + 6 ≤ SL) (h4 : SL ≤ 3072) (hInv : Inv μ) : ∃ μ', lcs_33 3000 3000 xs SL (nI (6 * k)) μ = some μ' ∧ Inv μ' := by
  obtain ⟨p, h, hI⟩ := hInv
  unfold lcs_33
  unfold fL_cyclesUntil
  try simp only [jn_eq, nm_eq, ckc_1 h3 h4, ckc_2 h3 h4, ckc_3 h3 h4]
  have hp : Pr Ans μ (fX12_cyclesUntil 3000 0 (xs (nI (6 * k) + (1 : Int32)).toNatClampNeg) (xs (nI (6 * k) + (2 : Int32)).toNatClampNeg) (xs (nI (6 * k) + (3 : Int32)).toNatClampNeg) μ) (fX13_cyclesUntil 3000 0 (xs (nI (6 * k) + (1 : Int32)).toNatClampNeg) (xs (nI (6 * k) + (2 : Int32)).toNatClampNeg) (xs (nI (6 * k) + (3 : Int32)).toNatClampNeg)) := op_r h hI fun ν h2 => op_until h2 _ _ _ 998 998
  exact law_int hp _ (fun v => v.toInt64) (fun v => v.toInt64) (hd_2 (ek_cyclesUntil (Or.inl rfl) (Or.inr rfl))) (vl_A (f := fun v => v.toInt64))
theorem lk_33 : CaseOK Inv 2097 := case_of (mc := 3) (ms := 18) (by decide) (by decide) lcs_33 (fun X hT V C R0 hN bs SL xs S fu gu ca sl hc hs i μ r0 H0 => lcz_33 hT V C R0 hN S fu gu hc hs i μ r0 H0) fun xs SL k μ h3 h4 hI => lm_33 h3 h4 hI
theorem lm_34 {xs : Nat → Int32} {SL k : Nat} {μ : Mem} (h3 : 6 * k + 6 ≤ SL) (h4 : SL ≤ 3072) (hInv : Inv μ) : ∃ μ', lcs_34 3000 3000 xs SL (nI (6 * k)) μ = some μ' ∧ Inv μ' := by
  obtain ⟨p, h, hI⟩ := hInv
  unfold lcs_34
  unfold fL_cyclesTo
  try simp only [jn_eq, nm_eq, ckc_1 h3 h4, ckc_2 h3 h4, ckc_3 h3 h4]
  have hp : Pr Ans μ (fX12_cyclesTo 3000 0 (xs (nI (6 * k) + (1 : Int32)).toNatClampNeg) (xs (nI (6 * k) + (2 : Int32)).toNatClampNeg) (xs (nI (6 * k) + (3 : Int32)).toNatClampNeg) μ) (fX13_cyclesTo 3000 0 (xs (nI (6 * k) + (1 : Int32)).toNatClampNeg) (xs (nI (6 * k) + (2 : Int32)).toNatClampNeg) (xs (nI (6 * k) + (3 : Int32)).toNatClampNeg)) := op_r h hI fun ν h2 => op_to h2 _ _ _ 998 998
  exact law_int hp _ (fun v => v.toInt64) (fun v => v.toInt64) (hd_2 (ek_cyclesTo (Or.inl rfl) (Or.inr rfl))) (vl_A (f := fun v => v.toInt64))
theorem lk_34 : CaseOK Inv 2177 := case_of (mc := 3) (ms := 18) (by decide) (by decide) lcs_34 (fun X hT V C R0 hN bs SL xs S fu gu ca sl hc hs i μ r0 H0 => lcz_34 hT V C R0 hN S fu gu hc hs i μ r0 H0) fun xs SL k μ h3 h4 hI => lm_34 h3 h4 hI
theorem lm_35 {xs : Nat → Int32} {SL k : Nat} {μ : Mem} (h3 : 6 * k + 6 ≤ SL) (h4 : SL ≤ 3072) (hInv : Inv μ) : ∃ μ', lcs_35 3000 3000 xs SL (nI (6 * k)) μ = some μ' ∧ Inv μ' := by
  obtain ⟨p, h, hI⟩ := hInv
  unfold lcs_35
  unfold fL_period
  try simp only [jn_eq, nm_eq, ckc_1 h3 h4, ckc_2 h3 h4]
  have hp : Pr Ans μ (fX12_period 3000 0 (xs (nI (6 * k) + (1 : Int32)).toNatClampNeg) (xs (nI (6 * k) + (2 : Int32)).toNatClampNeg) μ) (fX13_period 3000 0 (xs (nI (6 * k) + (1 : Int32)).toNatClampNeg) (xs (nI (6 * k) + (2 : Int32)).toNatClampNeg)) := op_r h hI fun ν h2 => op_period h2 _ _ 998 998
  exact law_int hp _ (fun v => v.toInt64) (fun v => v.toInt64) (hd_2 (ek_period (Or.inl rfl) (Or.inr rfl))) (vl_A (f := fun v => v.toInt64))
theorem lk_35 : CaseOK Inv 2257 := case_of (mc := 2) (ms := 12) (by decide) (by decide) lcs_35 (fun X hT V C R0 hN bs SL xs S fu gu ca sl hc hs i μ r0 H0 => lcz_35 hT V C R0 hN S fu gu hc hs i μ r0 H0) fun xs SL k μ h3 h4 hI => lm_35 h3 h4 hI
theorem lm_36 {xs : Nat → Int32} {SL k : Nat} {μ : Mem} (h3 : 6 * k + 6 ≤ SL) (h4 : SL ≤ 3072) (hInv : Inv μ) : ∃ μ', lcs_36 3000 3000 xs SL (nI (6 * k)) μ = some μ' ∧ Inv μ' := by
  obtain ⟨p, h, hI⟩ := hInv
  unfold lcs_36
  unfold fL_stuck
  try simp only [jn_eq, nm_eq, ckc_1 h3 h4]
  have hp : Pr AnsI μ (fX12_stuck 3000 0 (xs (nI (6 * k) + (1 : Int32)).toNatClampNeg) μ) (fX13_stuck 3000 0 (xs (nI (6 * k) + (1 : Int32)).toNatClampNeg)) := op_i h hI fun ν h2 _ => op_stuck h2 _ 998 998
  exact law_int hp _ (fun v => v.toInt64) (fun v => v.toInt64) hd_I (vl_I (f := fun v => v.toInt64))
theorem lk_36 : CaseOK Inv 2325 := case_of (mc := 1) (ms := 6) (by decide) (by decide) lcs_36 (fun X hT V C R0 hN bs SL xs S fu gu ca sl hc hs i μ r0 H0 => lcz_36 hT V C R0 hN S fu gu hc hs i μ r0 H0) fun xs SL k μ h3 h4 hI => lm_36 h3 h4 hI
theorem lm_37 {xs : Nat → Int32} {SL k : Nat} {μ : Mem} (h3 : 6 * k + 6 ≤ SL) (h4 : SL ≤ 3072) (hInv : Inv μ) : ∃ μ', lcs_37 3000 3000 xs SL (nI (6 * k)) μ = some μ' ∧ Inv μ' := by
  obtain ⟨p, h, hI⟩ := hInv
  unfold lcs_37
  unfold fL_divider
  try simp only [jn_eq, nm_eq, ckc_1 h3 h4, ckc_2 h3 h4]
  have hp : Pr AnsI μ (fX12_divider 0 (xs (nI (6 * k) + (1 : Int32)).toNatClampNeg) (xs (nI (6 * k) + (2 : Int32)).toNatClampNeg) μ) (fX13_divider 0 (xs (nI (6 * k) + (1 : Int32)).toNatClampNeg) (xs (nI (6 * k) + (2 : Int32)).toNatClampNeg)) := op_i h hI fun ν h2 _ => op_divider h2 _ _
  exact law_int hp _ (fun v => v.toInt64) (fun v => v.toInt64) hd_I (vl_I (f := fun v => v.toInt64))
theorem lk_37 : CaseOK Inv 2381 := case_of (mc := 1) (ms := 6) (by decide) (by decide) lcs_37 (fun X hT V C R0 hN bs SL xs S fu gu ca sl hc hs i μ r0 H0 => lcz_37 hT V C R0 hN S fu gu hc hs i μ r0 H0) fun xs SL k μ h3 h4 hI => lm_37 h3 h4 hI
theorem lm_40 {xs : Nat → Int32} {SL k : Nat} {μ : Mem} (h3 : 6 * k + 6 ≤ SL) (h4 : SL ≤ 3072) (hInv : Inv μ) : ∃ μ', lcs_40 3000 3000 xs SL (nI (6 * k)) μ = some μ' ∧ Inv μ' := by
  obtain ⟨p, h, hI⟩ := hInv
  unfold lcs_40
  try simp only [jn_eq, nm_eq]
  have hp : PrN μ (fX12_undoCount 0 μ) (fX13_undoCount 0) := prN_ask hI (ask_undoCount h)
  exact law_N hp
theorem lk_40 : CaseOK Inv 2530 := case_of (mc := 0) (ms := 0) (by decide) (by decide) lcs_40 (fun X hT V C R0 hN bs SL xs S fu gu ca sl hc hs i μ r0 H0 => lcz_40 hT V C R0 hN S fu gu hc hs i μ r0 H0) fun xs SL k μ h3 h4 hI => lm_40 h3 h4 hI
theorem lm_41 {xs : Nat → Int32} {SL k : Nat} {μ : Mem} (h3 : 6 * k + 6 ≤ SL) (h4 : SL ≤ 3072) (hInv : Inv μ) : ∃ μ', lcs_41 3000 3000 xs SL (nI (6 * k)) μ = some μ' ∧ Inv μ' := by
  obtain ⟨p, h, hI⟩ := hInv
  unfold lcs_41
  try simp only [jn_eq, nm_eq]
  have hp : PrN μ (fX12_undo 3000 0 μ) (fX13_undo 3000 0) := prN_op h hI fun ν h2 => op_undo h2  2995 2299
  exact law_N hp
theorem lk_41 : CaseOK Inv 2543 := case_of (mc := 0) (ms := 0) (by decide) (by decide) lcs_41 (fun X hT V C R0 hN bs SL xs S fu gu ca sl hc hs i μ r0 H0 => lcz_41 hT V C R0 hN S fu gu hc hs i μ r0 H0) fun xs SL k μ h3 h4 hI => lm_41 h3 h4 hI
theorem lm_42 {xs : Nat → Int32} {SL k : Nat} {μ : Mem} (h3 : 6 * k + 6 ≤ SL) (h4 : SL ≤ 3072) (hInv : Inv μ) : ∃ μ', lcs_42 3000 3000 xs SL (nI (6 * k)) μ = some μ' ∧ Inv μ' := by
  obtain ⟨p, h, hI⟩ := hInv
  unfold lcs_42
  try simp only [jn_eq, nm_eq]
  have hp := save_pair h hI
  exact hp
theorem lk_42 : CaseOK Inv 2556 := case_of (mc := 0) (ms := 0) (by decide) (by decide) lcs_42 (fun X hT V C R0 hN bs SL xs S fu gu ca sl hc hs i μ r0 H0 => lcz_42 hT V C R0 hN S fu gu hc hs i μ r0 H0) fun xs SL k μ h3 h4 hI => lm_42 h3 h4 hI
theorem lm_43 {xs : Nat → Int32} {SL k : Nat} {μ : Mem} (h3 : 6 * k + 6 ≤ SL) (h4 : SL ≤ 3072) (hInv : Inv μ) : ∃ μ', lcs_43 3000 3000 xs SL (nI (6 * k)) μ = some μ' ∧ Inv μ' := by
  obtain ⟨p, h, hI⟩ := hInv
  unfold lcs_43
  try simp only [jn_eq, nm_eq]
  have hp : PrN μ (fX12_restoreSnapshot 3000 0 μ) (fX13_restoreSnapshot 3000 0) := prN_op h hI fun ν h2 => op_restore h2  2995 2299
  exact law_N hp
theorem lk_43 : CaseOK Inv 2567 := case_of (mc := 0) (ms := 0) (by decide) (by decide) lcs_43 (fun X hT V C R0 hN bs SL xs S fu gu ca sl hc hs i μ r0 H0 => lcz_43 hT V C R0 hN S fu gu hc hs i μ r0 H0) fun xs SL k μ h3 h4 hI => lm_43 h3 h4 hI
theorem lm_44 {xs : Nat → Int32} {SL k : Nat} {μ : Mem} (h3 : 6 * k + 6 ≤ SL) (h4 : SL ≤ 3072) (hInv : Inv μ) : ∃ μ', lcs_44 3000 3000 xs SL (nI (6 * k)) μ = some μ' ∧ Inv μ' := by
  obtain ⟨p, h, hI⟩ := hInv
  unfold lcs_44
  unfold fL_query
  try simp only [jn_eq, nm_eq, ckc_1 h3 h4]
  have hp : Pr AnsI μ (fX12_query 3000 0 (xs (nI (6 * k) + (1 : Int32)).toNatClampNeg) μ) (fX13_query 3000 0 (xs (nI (6 * k) + (1 : Int32)).toNatClampNeg)) := op_i h hI fun ν h2 h3 => op_query h2 h3 _ 999
  exact law_int hp _ (fun v => v.toInt64) (fun v => v.toInt64) hd_I (vl_I (f := fun v => v.toInt64))
theorem lk_44 : CaseOK Inv 2580 := case_of (mc := 1) (ms := 6) (by decide) (by decide) lcs_44 (fun X hT V C R0 hN bs SL xs S fu gu ca sl hc hs i μ r0 H0 => lcz_44 hT V C R0 hN S fu gu hc hs i μ r0 H0) fun xs SL k μ h3 h4 hI => lm_44 h3 h4 hI
