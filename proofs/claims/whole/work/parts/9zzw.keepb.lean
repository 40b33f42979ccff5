/-! WHAT THE MODEL KEEPS: the texts -/
theorem k8_ckI {F : Nat → Int32} {α : Type} {i : Int32} {n : Nat} {o : Option (α × Mem)} (h : K8 F o) : K8 F (ckI i n o) := k8_ite h k8_none
theorem k8_ckZ {F : Nat → Int32} {α : Type} {v : Int32} {o : Option (α × Mem)} (h : K8 F o) : K8 F (ckZ v o) := k8_ite h k8_none
theorem k8_byteAt {F : Nat → Int32} {n0 : Nat} {p1 : Int32} {μ : Mem} (hm : μ.1 28 14 = F) : K8 F (fX13_byteAt n0 p1 μ) := by
  unfold fX13_byteAt
  simp -implicitDefEqProofs only [jn_eq, nm_eq]
  repeat' (first | assumption | exact k8_none | refine k8_ckI ?_ | refine k8_ckZ ?_ | refine k8_some ?_ | refine k8_bnd ?_ (fun _ _ _ => ?_) | refine k8_ite ?_ ?_ | refine k8_wI ?_ (by omega))
theorem k8_copy {F : Nat → Int32} {fu n0 n2 : Nat} {p1 p3 : Int32} {μ : Mem} (hm : μ.1 28 14 = F) : K8 F (fX13_copy fu n0 p1 n2 p3 μ) := by
  unfold fX13_copy
  simp -implicitDefEqProofs only [jn_eq, nm_eq]
  repeat' (first | assumption | exact k8_none | refine k8_ckI ?_ | refine k8_ckZ ?_ | refine k8_some ?_ | refine k8_bnd ?_ (fun _ _ _ => ?_) | refine k8_ite ?_ ?_ | refine k8_wI ?_ (by omega) | refine k8_lp1 (fun _ ih _ _ _ => ?_) _ _ _ ?_ | refine ih _ _ ?_)
