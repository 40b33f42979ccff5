/-! PARSING: the operands, read by both -/
theorem r0_op {o B : Nat} {P m : Nat → Int32} {r : Nat → Nat} (h : R0 o B P m r) : r 0 = 30 + o := by
  obtain ⟨_, _, _, _, _, _, _, _, _, _, h, _⟩ := h
  exact h
theorem jop_2 {N n j cnt t : Nat} {c : Nat → Int32} {T0 : Md → Nat → Int32} {M0 M1 : Md} {μ ν : Mem} (h : PG N n c t μ ν) (hI : IO N n c cnt j cnt 2 T0 (R0 2) M0 t μ ν) (hc : cnt < 32) (hM0 : MV M0) (hM1 : MV M1) (h0 : ∀ x, M0.1 x = some 0) (fu : Nat) :
    J2 N n c M0 M1 (fun μ => fX5_readOperands (fu + 1001) 0 j μ) (fX13_readOperands (fu + 1001) 0 (nI (284 + 6 * cnt)) 2 ν) t μ ν (IO N n c cnt j cnt 2 T0 (R0 2)) (fun M t' _ μ' ν' => IO N n c (cnt + 1) j cnt 0 T0 (RF 2) M t' μ' ν') (FcI j) (FmI cnt) () := by
  rw [mop_2 hc]
  have s1 := op_place (M1 := M1) (ro := 16) (mk := 63) (g := 1) (f := 2) h hI hc (by decide) (Or.inl (Nat.le_refl _)) mk_16 fu
  have key := j2_seq (Fc := FcI j) (Fm := FmI cnt) (F2 := fun μ => bnd (fX11_takeNumber 0 1 32 μ) fun x μ1 => some ((), wI μ1 9 j 5 x)) (FM2 := fun _ ν => fX13_putNumber (fu + 1001) 0 (nI (284 + 6 * cnt + 2)) 1 32 ν) (I2 := fun M t' _ μ' ν' => IO N n c cnt j cnt 2 T0 (spN 1 32 2 5 (spP 16 1 2 (R0 2))) M t' μ' ν') (cv := ()) (fun _ _ _ => fci_trans) (fun _ _ _ => fmi_trans) s1
    (fun t' _ μ' ν' _ _ _ g i => op_num (lo := 1) (hi := 32) (g := 2) (f := 5) g i hc (by decide) (Or.inl (Nat.le_refl _)) (by decide) (by decide) fu)
    (fun μ0 μ' _ _ d => ⟨wI μ' 9 j 5 1, by show bnd _ _ = _; rw [d_number d, bnd_some], fci_w, kt_9⟩)
    (fun μ' ν' _ b => ⟨ν', b_put b fu, fmi_rfl, fn_rfl, fun _ _ _ => rfl⟩)
  simp only [bnd_as, bnd_ckB, bnd_ite, bnd_some] at key ⊢
  refine j2_cong (fun M μx _ g i => ?_) h hI (j2_pp (fun _ _ w => w) (fun M t' b μ' ν' _ w => io_mono w (Nat.le_succ _) (by omega) (fun B P m r z => ?_)) key)
  · obtain ⟨-, -, -, -, -, i⟩ := i
    exact cop_2 (r0_op i)
  · obtain ⟨k, k1, k2, e1, e2, P0, m0, ⟨a, al, ar, e3, e4, P1, r1, w, f1, f2⟩, f3, f4⟩ := z
    obtain ⟨w0, w1, w2, w3, w4, w5, w6, w7, w8, w9, w10, w11, w12, w13⟩ := w
    have pl := pl_16 a al ar
    exact ⟨(f3 0 (by decide)).trans ((f1 0 (by decide)).trans w0), (f2 0 (by decide)).trans w10, (f3 4 (by decide)).trans ((f1 4 (by decide)).trans w4), (f3 5 (by decide)).trans ((f1 5 (by decide)).trans w5), (f4 6 (by decide)).trans w8, (f4 7 (by decide)).trans w9,
      plS.idxOf a, a, k, pl.1, pl.2.2, k1, k2, (f3 1 (by decide)).trans (e3.trans pl.2.1), e1, (f4 1 (by decide)).trans w6, e4, (f2 3 (by decide)).trans w12, (f2 4 (by decide)).trans w13, e2⟩
theorem jop_3 {N n j cnt t : Nat} {c : Nat → Int32} {T0 : Md → Nat → Int32} {M0 M1 : Md} {μ ν : Mem} (h : PG N n c t μ ν) (hI : IO N n c cnt j cnt 2 T0 (R0 3) M0 t μ ν) (hc : cnt < 32) (hM0 : MV M0) (hM1 : MV M1) (h0 : ∀ x, M0.1 x = some 0) (fu : Nat) :
    J2 N n c M0 M1 (fun μ => fX5_readOperands (fu + 1001) 0 j μ) (fX13_readOperands (fu + 1001) 0 (nI (284 + 6 * cnt)) 3 ν) t μ ν (IO N n c cnt j cnt 2 T0 (R0 3)) (fun M t' _ μ' ν' => IO N n c (cnt + 1) j cnt 0 T0 (RF 3) M t' μ' ν') (FcI j) (FmI cnt) () := by
  rw [mop_3 hc]
  have s1 := op_place (M1 := M1) (ro := 32) (mk := 415) (g := 1) (f := 2) h hI hc (by decide) (Or.inl (Nat.le_refl _)) mk_32 fu
  have key := j2_seq (Fc := FcI j) (Fm := FmI cnt) (F2 := fun μ => bnd (fX11_takeNumber 0 1 32 μ) fun x μ1 => some ((), wI μ1 9 j 5 x)) (FM2 := fun _ ν => fX13_putNumber (fu + 1001) 0 (nI (284 + 6 * cnt + 2)) 1 32 ν) (I2 := fun M t' _ μ' ν' => IO N n c cnt j cnt 2 T0 (spN 1 32 2 5 (spP 32 1 2 (R0 3))) M t' μ' ν') (cv := ()) (fun _ _ _ => fci_trans) (fun _ _ _ => fmi_trans) s1
    (fun t' _ μ' ν' _ _ _ g i => op_num (lo := 1) (hi := 32) (g := 2) (f := 5) g i hc (by decide) (Or.inl (Nat.le_refl _)) (by decide) (by decide) fu)
    (fun μ0 μ' _ _ d => ⟨wI μ' 9 j 5 1, by show bnd _ _ = _; rw [d_number d, bnd_some], fci_w, kt_9⟩)
    (fun μ' ν' _ b => ⟨ν', b_put b fu, fmi_rfl, fn_rfl, fun _ _ _ => rfl⟩)
  simp only [bnd_as, bnd_ckB, bnd_ite, bnd_some] at key ⊢
  refine j2_cong (fun M μx _ g i => ?_) h hI (j2_pp (fun _ _ w => w) (fun M t' b μ' ν' _ w => io_mono w (Nat.le_succ _) (by omega) (fun B P m r z => ?_)) key)
  · obtain ⟨-, -, -, -, -, i⟩ := i
    exact cop_3 (r0_op i)
  · obtain ⟨k, k1, k2, e1, e2, P0, m0, ⟨a, al, ar, e3, e4, P1, r1, w, f1, f2⟩, f3, f4⟩ := z
    obtain ⟨w0, w1, w2, w3, w4, w5, w6, w7, w8, w9, w10, w11, w12, w13⟩ := w
    have pl := pl_32 a al ar
    exact ⟨(f3 0 (by decide)).trans ((f1 0 (by decide)).trans w0), (f2 0 (by decide)).trans w10, (f3 4 (by decide)).trans ((f1 4 (by decide)).trans w4), (f3 5 (by decide)).trans ((f1 5 (by decide)).trans w5), (f4 6 (by decide)).trans w8, (f4 7 (by decide)).trans w9,
      plS.idxOf a, a, k, pl.1, pl.2.2.1, pl.2.2.2, k1, k2, (f3 1 (by decide)).trans (e3.trans pl.2.1), e1, (f4 1 (by decide)).trans w6, e4, (f2 3 (by decide)).trans w12, (f2 4 (by decide)).trans w13, e2⟩
theorem jop_10 {N n j cnt t : Nat} {c : Nat → Int32} {T0 : Md → Nat → Int32} {M0 M1 : Md} {μ ν : Mem} (h : PG N n c t μ ν) (hI : IO N n c cnt j cnt 2 T0 (R0 10) M0 t μ ν) (hc : cnt < 32) (hM0 : MV M0) (hM1 : MV M1) (h0 : ∀ x, M0.1 x = some 0) (fu : Nat) :
    J2 N n c M0 M1 (fun μ => fX5_readOperands (fu + 1001) 0 j μ) (fX13_readOperands (fu + 1001) 0 (nI (284 + 6 * cnt)) 10 ν) t μ ν (IO N n c cnt j cnt 2 T0 (R0 10)) (fun M t' _ μ' ν' => IO N n c (cnt + 1) j cnt 0 T0 (RF 10) M t' μ' ν') (FcI j) (FmI cnt) () := by
  rw [mop_10 hc]
  have s1 := op_place (M1 := M1) (ro := 512) (mk := 135) (g := 1) (f := 2) h hI hc (by decide) (Or.inl (Nat.le_refl _)) mk_512 fu
  have key := j2_seq (Fc := FcI j) (Fm := FmI cnt) (F2 := fun μ => bnd (fX11_takeNumber 0 0 31 μ) fun x μ1 => some ((), wI μ1 9 j 5 x)) (FM2 := fun _ ν => fX13_putNumber (fu + 1001) 0 (nI (284 + 6 * cnt + 2)) 0 31 ν) (I2 := fun M t' _ μ' ν' => IO N n c cnt j cnt 2 T0 (spN 0 31 2 5 (spP 512 1 2 (R0 10))) M t' μ' ν') (cv := ()) (fun _ _ _ => fci_trans) (fun _ _ _ => fmi_trans) s1
    (fun t' _ μ' ν' _ _ _ g i => op_num (lo := 0) (hi := 31) (g := 2) (f := 5) g i hc (by decide) (Or.inl (Nat.le_refl _)) (by decide) (by decide) fu)
    (fun μ0 μ' _ _ d => ⟨wI μ' 9 j 5 0, by show bnd _ _ = _; rw [d_number d, bnd_some], fci_w, kt_9⟩)
    (fun μ' ν' _ b => ⟨ν', b_put b fu, fmi_rfl, fn_rfl, fun _ _ _ => rfl⟩)
  simp only [bnd_as, bnd_ckB, bnd_ite, bnd_some] at key ⊢
  refine j2_cong (fun M μx _ g i => ?_) h hI (j2_pp (fun _ _ w => w) (fun M t' b μ' ν' _ w => io_mono w (Nat.le_succ _) (by omega) (fun B P m r z => ?_)) key)
  · obtain ⟨-, -, -, -, -, i⟩ := i
    exact cop_10 (r0_op i)
  · obtain ⟨k, k1, k2, e1, e2, P0, m0, ⟨a, al, ar, e3, e4, P1, r1, w, f1, f2⟩, f3, f4⟩ := z
    obtain ⟨w0, w1, w2, w3, w4, w5, w6, w7, w8, w9, w10, w11, w12, w13⟩ := w
    have pl := pl_512 a al ar
    exact ⟨(f3 0 (by decide)).trans ((f1 0 (by decide)).trans w0), (f2 0 (by decide)).trans w10, (f3 4 (by decide)).trans ((f1 4 (by decide)).trans w4), (f3 5 (by decide)).trans ((f1 5 (by decide)).trans w5), (f4 6 (by decide)).trans w8, (f4 7 (by decide)).trans w9,
      plS.idxOf a, a, k, pl.1, pl.2.2, by omega, (f3 1 (by decide)).trans (e3.trans pl.2.1), e1, (f4 1 (by decide)).trans w6, e4, (f2 3 (by decide)).trans w12, (f2 4 (by decide)).trans w13, e2⟩
theorem jop_7 {N n j cnt t : Nat} {c : Nat → Int32} {T0 : Md → Nat → Int32} {M0 M1 : Md} {μ ν : Mem} (h : PG N n c t μ ν) (hI : IO N n c cnt j cnt 2 T0 (R0 7) M0 t μ ν) (hc : cnt < 32) (hM0 : MV M0) (hM1 : MV M1) (h0 : ∀ x, M0.1 x = some 0) (fu : Nat) :
    J2 N n c M0 M1 (fun μ => fX5_readOperands (fu + 1001) 0 j μ) (fX13_readOperands (fu + 1001) 0 (nI (284 + 6 * cnt)) 7 ν) t μ ν (IO N n c cnt j cnt 2 T0 (R0 7)) (fun M t' _ μ' ν' => IO N n c (cnt + 1) j cnt 0 T0 (RF 7) M t' μ' ν') (FcI j) (FmI cnt) () := by
  rw [mop_7 hc]
  have key := op_num (M1 := M1) (lo := 0) (hi := 7) (g := 1) (f := 5) h hI hc (by decide) (Or.inl (Nat.le_refl _)) (by decide) (by decide) fu
  refine j2_cong (fun M μx _ g i => ?_) h hI (j2_pp (fun _ _ w => w) (fun M t' b μ' ν' _ w => io_mono w (Nat.le_succ _) (by omega) (fun B P m r z => ?_)) key)
  · obtain ⟨-, -, -, -, -, i⟩ := i
    exact cop_7 (r0_op i)
  · obtain ⟨k, k1, k2, e1, e2, P0, m0, w, f3, f4⟩ := z
    obtain ⟨w0, w1, w2, w3, w4, w5, w6, w7, w8, w9, w10, w11, w12, w13⟩ := w
    exact ⟨(f3 0 (by decide)).trans w0, w10, (f3 4 (by decide)).trans w4, (f3 5 (by decide)).trans w5, (f4 6 (by decide)).trans w8, (f4 7 (by decide)).trans w9, k, by omega, e1, (f4 1 (by decide)).trans w6, w11, w12, w13, e2⟩
theorem jop_8 {N n j cnt t : Nat} {c : Nat → Int32} {T0 : Md → Nat → Int32} {M0 M1 : Md} {μ ν : Mem} (h : PG N n c t μ ν) (hI : IO N n c cnt j cnt 2 T0 (R0 8) M0 t μ ν) (hc : cnt < 32) (hM0 : MV M0) (hM1 : MV M1) (h0 : ∀ x, M0.1 x = some 0) (fu : Nat) :
    J2 N n c M0 M1 (fun μ => fX5_readOperands (fu + 1001) 0 j μ) (fX13_readOperands (fu + 1001) 0 (nI (284 + 6 * cnt)) 8 ν) t μ ν (IO N n c cnt j cnt 2 T0 (R0 8)) (fun M t' _ μ' ν' => IO N n c (cnt + 1) j cnt 0 T0 (RF 8) M t' μ' ν') (FcI j) (FmI cnt) () := by
  rw [mop_8 hc]
  have key := op_num (M1 := M1) (lo := 0) (hi := 7) (g := 1) (f := 5) h hI hc (by decide) (Or.inl (Nat.le_refl _)) (by decide) (by decide) fu
  refine j2_cong (fun M μx _ g i => ?_) h hI (j2_pp (fun _ _ w => w) (fun M t' b μ' ν' _ w => io_mono w (Nat.le_succ _) (by omega) (fun B P m r z => ?_)) key)
  · obtain ⟨-, -, -, -, -, i⟩ := i
    exact cop_8 (r0_op i)
  · obtain ⟨k, k1, k2, e1, e2, P0, m0, w, f3, f4⟩ := z
    obtain ⟨w0, w1, w2, w3, w4, w5, w6, w7, w8, w9, w10, w11, w12, w13⟩ := w
    exact ⟨(f3 0 (by decide)).trans w0, w10, (f3 4 (by decide)).trans w4, (f3 5 (by decide)).trans w5, (f4 6 (by decide)).trans w8, (f4 7 (by decide)).trans w9, k, by omega, e1, (f4 1 (by decide)).trans w6, w11, w12, w13, e2⟩
theorem jop_9 {N n j cnt t : Nat} {c : Nat → Int32} {T0 : Md → Nat → Int32} {M0 M1 : Md} {μ ν : Mem} (h : PG N n c t μ ν) (hI : IO N n c cnt j cnt 2 T0 (R0 9) M0 t μ ν) (hc : cnt < 32) (hM0 : MV M0) (hM1 : MV M1) (h0 : ∀ x, M0.1 x = some 0) (fu : Nat) :
    J2 N n c M0 M1 (fun μ => fX5_readOperands (fu + 1001) 0 j μ) (fX13_readOperands (fu + 1001) 0 (nI (284 + 6 * cnt)) 9 ν) t μ ν (IO N n c cnt j cnt 2 T0 (R0 9)) (fun M t' _ μ' ν' => IO N n c (cnt + 1) j cnt 0 T0 (RF 9) M t' μ' ν') (FcI j) (FmI cnt) () := by
  rw [mop_9 hc]
  have key := op_num (M1 := M1) (lo := 0) (hi := 7) (g := 1) (f := 5) h hI hc (by decide) (Or.inl (Nat.le_refl _)) (by decide) (by decide) fu
  refine j2_cong (fun M μx _ g i => ?_) h hI (j2_pp (fun _ _ w => w) (fun M t' b μ' ν' _ w => io_mono w (Nat.le_succ _) (by omega) (fun B P m r z => ?_)) key)
  · obtain ⟨-, -, -, -, -, i⟩ := i
    exact cop_9 (r0_op i)
  · obtain ⟨k, k1, k2, e1, e2, P0, m0, w, f3, f4⟩ := z
    obtain ⟨w0, w1, w2, w3, w4, w5, w6, w7, w8, w9, w10, w11, w12, w13⟩ := w
    exact ⟨(f3 0 (by decide)).trans w0, w10, (f3 4 (by decide)).trans w4, (f3 5 (by decide)).trans w5, (f4 6 (by decide)).trans w8, (f4 7 (by decide)).trans w9, k, by omega, e1, (f4 1 (by decide)).trans w6, w11, w12, w13, e2⟩
theorem jop_4 {N n j cnt t : Nat} {c : Nat → Int32} {T0 : Md → Nat → Int32} {M0 M1 : Md} {μ ν : Mem} (h : PG N n c t μ ν) (hI : IO N n c cnt j cnt 2 T0 (R0 4) M0 t μ ν) (hc : cnt < 32) (hM0 : MV M0) (hM1 : MV M1) (h0 : ∀ x, M0.1 x = some 0) (fu : Nat) :
    J2 N n c M0 M1 (fun μ => fX5_readOperands (fu + 1001) 0 j μ) (fX13_readOperands (fu + 1001) 0 (nI (284 + 6 * cnt)) 4 ν) t μ ν (IO N n c cnt j cnt 2 T0 (R0 4)) (fun M t' _ μ' ν' => IO N n c (cnt + 1) j cnt 0 T0 (RF 4) M t' μ' ν') (FcI j) (FmI cnt) () := by
  rw [mop_4 hc]
  have s1 := op_way (M1 := M1) (w := 60) (ii := 49) (g := 1) (f := 2) h hI hc (by decide) (Or.inl (Nat.le_refl _)) (by decide) fu
  have key := j2_seq (Fc := FcI j) (Fm := FmI cnt) (F2 := fun μ => bnd (fX11_skip 0 62 μ) fun x μ1 => if x = 0 then some ((), μ1) else some ((), wR μ1 9 j 4 62)) (FM2 := fun _ ν => bnd (fX13_accept (fu + 1001) 0 50 ν) fun x ν1 => some ((), wI ν1 27 1 (284 + 6 * cnt + 2) (if x = 0 then 0 else 1))) (I2 := fun M t' _ μ' ν' => IO N n c cnt j cnt 2 T0 (spW 62 2 4 (spW 60 1 2 (R0 4))) M t' μ' ν') (cv := ()) (fun _ _ _ => fci_trans) (fun _ _ _ => fmi_trans) s1
    (fun t' _ μ' ν' _ _ _ g i => op_way (w := 62) (ii := 50) (g := 2) (f := 4) g i hc (by decide) (Or.inl (Nat.le_refl _)) (by decide) fu)
    (fun μ0 μ' _ _ d => ⟨μ', by show bnd _ _ = _; rw [d_skip d, bnd_some, if_pos (show (0 : Int32) = 0 from rfl)], fci_rfl, kt_rfl⟩)
    (fun μ' ν' _ b => ⟨_, by show bnd _ _ = _; rw [b_accept b, bnd_some], fmi_w (by decide), fn_w, fun _ _ _ => wI_o (by omega)⟩)
  simp only [bnd_as, bnd_ckB, bnd_ite, bnd_some] at key ⊢
  refine j2_cong (fun M μx _ g i => ?_) h hI (j2_pp (fun _ _ w => w) (fun M t' b μ' ν' _ w => io_mono w (Nat.le_succ _) (by omega) (fun B P m r z => ?_)) key)
  · obtain ⟨-, -, -, -, -, i⟩ := i
    have e := cop_4 (fu := fu + 1001) (r0_op i)
    rw [c_ways] at e
    simp only [bnd_as, bnd_ite, bnd_some] at e
    exact e
  · obtain ⟨b, b1, e1, P0, r0, ⟨a, a1, e2, P1, r1, w, e3, f1, f2⟩, e4, f3, f4⟩ := z
    obtain ⟨w0, w1, w2, w3, w4, w5, w6, w7, w8, w9, w10, w11, w12, w13⟩ := w
    refine ⟨(f3 0 (by decide)).trans ((f1 0 (by decide)).trans w0), (f4 0 (by decide)).trans ((f2 0 (by decide)).trans w10), (f3 4 (by decide)).trans ((f1 4 (by decide)).trans w4), (f3 5 (by decide)).trans ((f1 5 (by decide)).trans w5), w8, w9,
      a, b, a1, b1, (f3 1 (by decide)).trans e2, e1, w6, (f4 2 (by decide)).trans (e3.trans ?_), (f4 3 (by decide)).trans ((f2 3 (by decide)).trans w12), e4.trans ?_, w7⟩
    · rw [w11]
    · rw [f2 4 (by decide), w13]
theorem jop_5 {N n j cnt t : Nat} {c : Nat → Int32} {T0 : Md → Nat → Int32} {M0 M1 : Md} {μ ν : Mem} (h : PG N n c t μ ν) (hI : IO N n c cnt j cnt 2 T0 (R0 5) M0 t μ ν) (hc : cnt < 32) (hM0 : MV M0) (hM1 : MV M1) (h0 : ∀ x, M0.1 x = some 0) (fu : Nat) :
    J2 N n c M0 M1 (fun μ => fX5_readOperands (fu + 1001) 0 j μ) (fX13_readOperands (fu + 1001) 0 (nI (284 + 6 * cnt)) 5 ν) t μ ν (IO N n c cnt j cnt 2 T0 (R0 5)) (fun M t' _ μ' ν' => IO N n c (cnt + 1) j cnt 0 T0 (RF 5) M t' μ' ν') (FcI j) (FmI cnt) () := by
  rw [mop_5 hc]
  have s1 := op_way (M1 := M1) (w := 61) (ii := 51) (g := 1) (f := 2) h hI hc (by decide) (Or.inl (Nat.le_refl _)) (by decide) fu
  have key := j2_seq (Fc := FcI j) (Fm := FmI cnt) (F2 := fun μ => bnd (fX11_skip 0 62 μ) fun x μ1 => if x = 0 then some ((), μ1) else some ((), wR μ1 9 j 4 62)) (FM2 := fun _ ν => bnd (fX13_accept (fu + 1001) 0 50 ν) fun x ν1 => some ((), wI ν1 27 1 (284 + 6 * cnt + 2) (if x = 0 then 0 else 1))) (I2 := fun M t' _ μ' ν' => IO N n c cnt j cnt 2 T0 (spW 62 2 4 (spW 61 1 2 (R0 5))) M t' μ' ν') (cv := ()) (fun _ _ _ => fci_trans) (fun _ _ _ => fmi_trans) s1
    (fun t' _ μ' ν' _ _ _ g i => op_way (w := 62) (ii := 50) (g := 2) (f := 4) g i hc (by decide) (Or.inl (Nat.le_refl _)) (by decide) fu)
    (fun μ0 μ' _ _ d => ⟨μ', by show bnd _ _ = _; rw [d_skip d, bnd_some, if_pos (show (0 : Int32) = 0 from rfl)], fci_rfl, kt_rfl⟩)
    (fun μ' ν' _ b => ⟨_, by show bnd _ _ = _; rw [b_accept b, bnd_some], fmi_w (by decide), fn_w, fun _ _ _ => wI_o (by omega)⟩)
  simp only [bnd_as, bnd_ckB, bnd_ite, bnd_some] at key ⊢
  refine j2_cong (fun M μx _ g i => ?_) h hI (j2_pp (fun _ _ w => w) (fun M t' b μ' ν' _ w => io_mono w (Nat.le_succ _) (by omega) (fun B P m r z => ?_)) key)
  · obtain ⟨-, -, -, -, -, i⟩ := i
    have e := cop_5 (fu := fu + 1001) (r0_op i)
    rw [c_ways] at e
    simp only [bnd_as, bnd_ite, bnd_some] at e
    exact e
  · obtain ⟨b, b1, e1, P0, r0, ⟨a, a1, e2, P1, r1, w, e3, f1, f2⟩, e4, f3, f4⟩ := z
    obtain ⟨w0, w1, w2, w3, w4, w5, w6, w7, w8, w9, w10, w11, w12, w13⟩ := w
    refine ⟨(f3 0 (by decide)).trans ((f1 0 (by decide)).trans w0), (f4 0 (by decide)).trans ((f2 0 (by decide)).trans w10), (f3 4 (by decide)).trans ((f1 4 (by decide)).trans w4), (f3 5 (by decide)).trans ((f1 5 (by decide)).trans w5), w8, w9,
      a, b, a1, b1, (f3 1 (by decide)).trans e2, e1, w6, (f4 2 (by decide)).trans (e3.trans ?_), (f4 3 (by decide)).trans ((f2 3 (by decide)).trans w12), e4.trans ?_, w7⟩
    · rw [w11]
    · rw [f2 4 (by decide), w13]
theorem jop_6 {N n j cnt t : Nat} {c : Nat → Int32} {T0 : Md → Nat → Int32} {M0 M1 : Md} {μ ν : Mem} (h : PG N n c t μ ν) (hI : IO N n c cnt j cnt 2 T0 (R0 6) M0 t μ ν) (hc : cnt < 32) (hM0 : MV M0) (hM1 : MV M1) (h0 : ∀ x, M0.1 x = some 0) (fu : Nat) :
    J2 N n c M0 M1 (fun μ => fX5_readOperands (fu + 1001) 0 j μ) (fX13_readOperands (fu + 1001) 0 (nI (284 + 6 * cnt)) 6 ν) t μ ν (IO N n c cnt j cnt 2 T0 (R0 6)) (fun M t' _ μ' ν' => IO N n c (cnt + 1) j cnt 0 T0 (RF 6) M t' μ' ν') (FcI j) (FmI cnt) () := by
  rw [mop_6 hc]
  have s1 := op_place (M1 := M1) (ro := 64) (mk := 311) (g := 1) (f := 2) h hI hc (by decide) (Or.inl (Nat.le_refl _)) mk_64 fu
  have key := j2_seq (Fc := FcI j) (Fm := FmI cnt) (F2 := fun μ => bnd (bnd (fX11_takeOptional 0 128 μ) fun a μ1 => ckB a 74 (some ((), wR μ1 9 j 3 a))) fun _ μ2 => bnd (fX11_takeRole 0 256 μ2) fun a μ1 => ckB a 74 (some ((), wR μ1 9 j 4 a)))
    (FM2 := fun _ ν => bnd (bnd (fX13_accept (fu + 1001) 0 52 ν) fun x ν1 => if x = 0 then bnd (fX13_accept (fu + 1001) 0 53 ν1) fun y ν2 => some ((), wI ν2 27 1 (284 + 6 * cnt + 2) (if y = 0 then 0 else 2)) else some ((), wI ν1 27 1 (284 + 6 * cnt + 2) 1)) fun _ ν2 => fX13_readPlace (fu + 1001) 0 (nI (284 + 6 * cnt + 3)) 127 ν2) (I2 := fun M t' _ μ' ν' => IO N n c cnt j cnt 2 T0 (spP 256 3 4 (spC (spP 64 1 2 (R0 6)))) M t' μ' ν') (cv := ()) (fun _ _ _ => fci_trans) (fun _ _ _ => fmi_trans) s1
    (fun t' _ μ' ν' _ _ _ g i => j2_seq (Fc := FcI j) (Fm := FmI cnt) (F2 := fun μ2 => bnd (fX11_takeRole 0 256 μ2) fun a μ1 => ckB a 74 (some ((), wR μ1 9 j 4 a))) (FM2 := fun _ ν2 => fX13_readPlace (fu + 1001) 0 (nI (284 + 6 * cnt + 3)) 127 ν2) (cv := ()) (fun _ _ _ => fci_trans) (fun _ _ _ => fmi_trans) (op_change g i hc (Nat.le_refl _) fu)
      (fun t' _ μ' ν' _ _ _ g i => op_place (ro := 256) (mk := 127) (g := 3) (f := 4) g i hc (by decide) (Or.inl (Nat.le_refl _)) mk_256 fu)
      (fun μ0 μ' _ _ d => ⟨wR μ' 9 j 4 0, by show bnd _ _ = _; rw [d_takeRole d, bnd_some, ckB_ok (by decide)], fci_r (by decide), kt_r⟩)
      (fun μ' ν' _ b => ⟨ν', b_place b fu, fmi_rfl, fn_rfl, fun _ _ _ => rfl⟩))
    (fun μ0 μ' _ _ d => by
      have d' : DD N n c (wR μ' 9 j 3 0) := dd_c d (fun _ _ _ _ => rfl) (funext fun q => wR_o (by omega))
      exact ⟨wR (wR μ' 9 j 3 0) 9 j 4 0, by show bnd (bnd _ _) _ = _; rw [d_takeOpt d, bnd_some, ckB_ok (by decide), bnd_some, d_takeRole d', bnd_some, ckB_ok (by decide)], fci_trans (fci_r (by decide)) (fci_r (by decide)), kt_trans kt_r kt_r⟩)
    (fun μ' ν' _ b => by
      have b' : PB N n c μ' (wI ν' 27 1 (284 + 6 * cnt + 2) 0) := pb_m b (fun _ _ _ => wI_o (by omega))
      exact ⟨_, by show bnd (bnd _ _) _ = _; rw [b_accept b, bnd_some, if_pos (show (0 : Int32) = 0 from rfl), b_accept b, bnd_some, if_pos (show (0 : Int32) = 0 from rfl), bnd_some, b_place b'], fmi_w (by decide), fn_w, fun _ _ _ => wI_o (by omega)⟩)
  simp only [bnd_as, bnd_ckB, bnd_ite, bnd_some] at key ⊢
  refine j2_cong (fun M μx _ g i => ?_) h hI (j2_pp (fun _ _ w => w) (fun M t' b μ' ν' _ w => io_mono w (Nat.le_succ _) (by omega) (fun B P m r z => ?_)) key)
  · obtain ⟨-, -, -, -, -, i⟩ := i
    exact cop_6 (r0_op i)
  · obtain ⟨a2, al2, ar2, x1, x2, P3, r3, ⟨d, d1, y1, y2, P0, r0, ⟨a, al, ar, e3, e4, P1, r1, w, f1, f2⟩, f3, f4⟩, f5, f6⟩ := z
    obtain ⟨w0, w1, w2, w3, w4, w5, w6, w7, w8, w9, w10, w11, w12, w13⟩ := w
    have pl := pl_64 a al ar
    have pl2 := pl_256 a2 al2 ar2
    exact ⟨(f5 0 (by decide)).trans ((f3 0 (by decide)).trans ((f1 0 (by decide)).trans w0)), (f6 0 (by decide)).trans ((f4 0 (by decide)).trans ((f2 0 (by decide)).trans w10)), (f5 4 (by decide)).trans ((f3 4 (by decide)).trans ((f1 4 (by decide)).trans w4)), (f5 5 (by decide)).trans ((f3 5 (by decide)).trans ((f1 5 (by decide)).trans w5)), w8, w9,
      plS.idxOf a, a, d, plS.idxOf a2, a2, pl.1, pl.2.2.1, pl.2.2.2.1, pl.2.2.2.2, d1, pl2.1, pl2.2.2, (f5 1 (by decide)).trans ((f3 1 (by decide)).trans (e3.trans pl.2.1)), (f5 2 (by decide)).trans y1, x1.trans pl2.2.1, w6, (f6 2 (by decide)).trans ((f4 2 (by decide)).trans e4), (f6 3 (by decide)).trans y2, x2, w7⟩
theorem jop_11 {N n j cnt t : Nat} {c : Nat → Int32} {T0 : Md → Nat → Int32} {M0 M1 : Md} {μ ν : Mem} (h : PG N n c t μ ν) (hI : IO N n c cnt j cnt 2 T0 (R0 11) M0 t μ ν) (hc : cnt < 32) (hM0 : MV M0) (hM1 : MV M1) (h0 : ∀ x, M0.1 x = some 0) (fu : Nat) :
    J2 N n c M0 M1 (fun μ => fX5_readOperands (fu + 1001) 0 j μ) (fX13_readOperands (fu + 1001) 0 (nI (284 + 6 * cnt)) 11 ν) t μ ν (IO N n c cnt j cnt 2 T0 (R0 11)) (fun M t' _ μ' ν' => IO N n c (cnt + 1) j cnt 0 T0 (RF 11) M t' μ' ν') (FcI j) (FmI cnt) () := by
  rw [mop_11 hc]
  have s1 := op_place (M1 := M1) (ro := 1024) (mk := 38) (g := 1) (f := 2) h hI hc (by decide) (Or.inl (Nat.le_refl _)) mk_1024 fu
  have key := j2_seq (Fc := FcI j) (Fm := FmI cnt) (F2 := fun μ => fX5_readPlace 0 j μ) (FM2 := fun _ ν => mCell (fu + 1001) (nI (284 + 6 * cnt + 2)) (284 + 6 * cnt + 2) ν) (I2 := fun M t' _ μ' ν' => IO N n c cnt j cnt 2 T0 (spE (spP 1024 1 2 (R0 11))) M t' μ' ν') (cv := ()) (fun _ _ _ => fci_trans) (fun _ _ _ => fmi_trans) s1
    (fun t' _ μ' ν' _ _ _ g i => op_cell g i hc (Nat.le_refl _) fu)
    (fun μ0 μ' _ _ d => ⟨wI (wR μ' 9 j 4 0) 9 j 5 0, c_cellN (d_takeOpt d) (d_number (dd_c d (fun _ _ _ _ => rfl) (funext fun q => wR_o (by omega)))), fci_trans (fci_r (by decide)) fci_w, kt_trans kt_r kt_9⟩)
    (fun μ' ν' _ b => ⟨ν', by show mCell _ _ _ _ = _; unfold mCell; rw [b_accept b, bnd_some, if_pos (show (0 : Int32) = 0 from rfl), b_accept b, bnd_some, if_pos (show (0 : Int32) = 0 from rfl), b_put b], fmi_rfl, fn_rfl, fun _ _ _ => rfl⟩)
  simp only [bnd_as, bnd_ckB, bnd_ite, bnd_some] at key ⊢
  refine j2_cong (fun M μx _ g i => ?_) h hI (j2_pp (fun _ _ w => w) (fun M t' b μ' ν' _ w => io_mono w (Nat.le_succ _) (by omega) (fun B P m r z => ?_)) key)
  · obtain ⟨-, -, -, -, -, i⟩ := i
    exact cop_11 (r0_op i)
  · obtain ⟨b, b1, e1, e2, P0, m0, r0, ⟨a, al, ar, e3, e4, P1, r1, w, f1, f2⟩, e5, f3, f4, f5⟩ := z
    obtain ⟨w0, w1, w2, w3, w4, w5, w6, w7, w8, w9, w10, w11, w12, w13⟩ := w
    have pl := pl_1024 a al ar
    refine ⟨(f3 0 (by decide)).trans ((f1 0 (by decide)).trans w0), (f5 0 (by decide)).trans ((f2 0 (by decide)).trans w10), (f3 4 (by decide)).trans ((f1 4 (by decide)).trans w4), (f3 5 (by decide)).trans ((f1 5 (by decide)).trans w5), (f4 6 (by decide)).trans w8, (f4 7 (by decide)).trans w9,
      plS.idxOf a, a, b, pl.1, pl.2.2, b1, (f3 1 (by decide)).trans (e3.trans pl.2.1), e1, (f4 1 (by decide)).trans w6, (f5 2 (by decide)).trans e4, (f5 3 (by decide)).trans ((f2 3 (by decide)).trans w12), e2, e5.trans ?_⟩
    rw [w7]
theorem jop_12 {N n j cnt t : Nat} {c : Nat → Int32} {T0 : Md → Nat → Int32} {M0 M1 : Md} {μ ν : Mem} (h : PG N n c t μ ν) (hI : IO N n c cnt j cnt 2 T0 (R0 12) M0 t μ ν) (hc : cnt < 32) (hM0 : MV M0) (hM1 : MV M1) (h0 : ∀ x, M0.1 x = some 0) (fu : Nat) :
    J2 N n c M0 M1 (fun μ => fX5_readOperands (fu + 1001) 0 j μ) (fX13_readOperands (fu + 1001) 0 (nI (284 + 6 * cnt)) 12 ν) t μ ν (IO N n c cnt j cnt 2 T0 (R0 12)) (fun M t' _ μ' ν' => IO N n c (cnt + 1) j cnt 0 T0 (RF 12) M t' μ' ν') (FcI j) (FmI cnt) () := by
  rw [mop_12 hc]
  have s1 := op_place (M1 := M1) (ro := 2048) (mk := 22) (g := 1) (f := 2) h hI hc (by decide) (Or.inl (Nat.le_refl _)) mk_2048 fu
  have key := j2_seq (Fc := FcI j) (Fm := FmI cnt) (F2 := fun μ => fX5_readPlace 0 j μ) (FM2 := fun _ ν => mCell (fu + 1001) (nI (284 + 6 * cnt + 2)) (284 + 6 * cnt + 2) ν) (I2 := fun M t' _ μ' ν' => IO N n c cnt j cnt 2 T0 (spE (spP 2048 1 2 (R0 12))) M t' μ' ν') (cv := ()) (fun _ _ _ => fci_trans) (fun _ _ _ => fmi_trans) s1
    (fun t' _ μ' ν' _ _ _ g i => op_cell g i hc (Nat.le_refl _) fu)
    (fun μ0 μ' _ _ d => ⟨wI (wR μ' 9 j 4 0) 9 j 5 0, c_cellN (d_takeOpt d) (d_number (dd_c d (fun _ _ _ _ => rfl) (funext fun q => wR_o (by omega)))), fci_trans (fci_r (by decide)) fci_w, kt_trans kt_r kt_9⟩)
    (fun μ' ν' _ b => ⟨ν', by show mCell _ _ _ _ = _; unfold mCell; rw [b_accept b, bnd_some, if_pos (show (0 : Int32) = 0 from rfl), b_accept b, bnd_some, if_pos (show (0 : Int32) = 0 from rfl), b_put b], fmi_rfl, fn_rfl, fun _ _ _ => rfl⟩)
  simp only [bnd_as, bnd_ckB, bnd_ite, bnd_some] at key ⊢
  refine j2_cong (fun M μx _ g i => ?_) h hI (j2_pp (fun _ _ w => w) (fun M t' b μ' ν' _ w => io_mono w (Nat.le_succ _) (by omega) (fun B P m r z => ?_)) key)
  · obtain ⟨-, -, -, -, -, i⟩ := i
    exact cop_12 (r0_op i)
  · obtain ⟨b, b1, e1, e2, P0, m0, r0, ⟨a, al, ar, e3, e4, P1, r1, w, f1, f2⟩, e5, f3, f4, f5⟩ := z
    obtain ⟨w0, w1, w2, w3, w4, w5, w6, w7, w8, w9, w10, w11, w12, w13⟩ := w
    have pl := pl_2048 a al ar
    refine ⟨(f3 0 (by decide)).trans ((f1 0 (by decide)).trans w0), (f5 0 (by decide)).trans ((f2 0 (by decide)).trans w10), (f3 4 (by decide)).trans ((f1 4 (by decide)).trans w4), (f3 5 (by decide)).trans ((f1 5 (by decide)).trans w5), (f4 6 (by decide)).trans w8, (f4 7 (by decide)).trans w9,
      plS.idxOf a, a, b, pl.1, pl.2.2, b1, (f3 1 (by decide)).trans (e3.trans pl.2.1), e1, (f4 1 (by decide)).trans w6, (f5 2 (by decide)).trans e4, (f5 3 (by decide)).trans ((f2 3 (by decide)).trans w12), e2, e5.trans ?_⟩
    rw [w7]
theorem jop_1 {N n j cnt t : Nat} {c : Nat → Int32} {T0 : Md → Nat → Int32} {M0 M1 : Md} {μ ν : Mem} (h : PG N n c t μ ν) (hI : IO N n c cnt j cnt 2 T0 (R0 1) M0 t μ ν) (hc : cnt < 32) (hM0 : MV M0) (hM1 : MV M1) (h0 : ∀ x, M0.1 x = some 0) (fu : Nat) :
    J2 N n c M0 M1 (fun μ => fX5_readOperands (fu + 1001) 0 j μ) (fX13_readOperands (fu + 1001) 0 (nI (284 + 6 * cnt)) 1 ν) t μ ν (IO N n c cnt j cnt 2 T0 (R0 1)) (fun M t' _ μ' ν' => IO N n c (cnt + 1) j cnt 0 T0 (RF 1) M t' μ' ν') (FcI j) (FmI cnt) () := by
  rw [mop_1 hc]
  have s1 := op_num (M1 := M1) (lo := 0) (hi := 1) (g := 1) (f := 1) h hI hc (by decide) (Or.inl (Nat.le_refl _)) (by decide) (by decide) fu
  have key := j2_seq (Fc := FcI j) (Fm := FmI cnt) (F2 := fun μ => cWt j μ) (FM2 := fun _ ν => mWt (fu + 1001) (nI (284 + 6 * cnt + 3)) (284 + 6 * cnt + 2) ν) (I2 := fun M t' _ μ' ν' => IO N n c cnt j cnt 2 T0 (spT (spN 0 1 1 1 (R0 1))) M t' μ' ν') (cv := ()) (fun _ _ _ => fci_trans) (fun _ _ _ => fmi_trans) s1
    (fun t' _ μ' ν' _ _ _ g i => op_wait g i hc (Nat.le_refl _) fu)
    (fun μ0 μ' _ _ d => ⟨wI (wR μ' 9 j 2 0) 9 j 5 0, by show cWt j μ' = _; unfold cWt; rw [d_takeRole d, bnd_some, ckB_ok (by decide), if_pos (by decide), d_number (show DD N n c (wR μ' 9 j 2 0) from dd_c d (fun _ _ _ _ => rfl) (funext fun q => wR_o (by omega))), bnd_some], fci_trans (fci_r (by decide)) fci_w, kt_trans kt_r kt_9⟩)
    (fun μ' ν' _ b => by
      have b' : PB N n c μ' (wI ν' 27 1 (284 + 6 * cnt + 2) 0) := pb_m b (fun _ _ _ => wI_o (by omega))
      exact ⟨_, by show mWt _ _ _ _ = _; unfold mWt; rw [b_accept b, bnd_some, if_neg (fun z => z rfl), b_expectWord b, bnd_some, b_put b'], fmi_w (by decide), fn_w, fun _ _ _ => wI_o (by omega)⟩)
  simp only [bnd_as, bnd_ckB, bnd_ite, bnd_some] at key ⊢
  refine j2_cong (fun M μx _ g i => ?_) h hI (j2_pp (fun _ _ w => w) (fun M t' b μ' ν' _ w => io_mono w (Nat.le_succ _) (by omega) (fun B P m r z => ?_)) key)
  · obtain ⟨-, -, -, -, -, i⟩ := i
    exact cop_1 (r0_op i)
  · obtain ⟨f, k, hf, hk, x1, x2, x3, x4, P0, m0, r0, ⟨a, a1, a2, e1, e2, P1, m1, w, f1, f2⟩, f3, f4, f5⟩ := z
    obtain ⟨w0, w1, w2, w3, w4, w5, w6, w7, w8, w9, w10, w11, w12, w13⟩ := w
    exact ⟨(f3 0 (by decide) (by decide)).trans ((f1 0 (by decide)).trans w0), (f5 0 (by decide)).trans w10, (f3 4 (by decide) (by decide)).trans ((f1 4 (by decide)).trans w4), (f3 5 (by decide) (by decide)).trans ((f1 5 (by decide)).trans w5), (f4 6 (by decide)).trans ((f2 6 (by decide)).trans w8), (f4 7 (by decide)).trans ((f2 7 (by decide)).trans w9),
      a, f, k, a2, hf, hk, (f3 1 (by decide) (by decide)).trans e1, x1, x2, (f4 1 (by decide)).trans e2, x3, (f5 3 (by decide)).trans w12, (f5 4 (by decide)).trans w13, x4⟩
theorem jop_0 {N n j cnt t : Nat} {c : Nat → Int32} {T0 : Md → Nat → Int32} {M0 M1 : Md} {μ ν : Mem} (h : PG N n c t μ ν) (hI : IO N n c cnt j cnt 2 T0 (R0 0) M0 t μ ν) (hc : cnt < 32) (hM0 : MV M0) (hM1 : MV M1) (h0 : ∀ x, M0.1 x = some 0) (fu : Nat) :
    J2 N n c M0 M1 (fun μ => fX5_readOperands (fu + 1001) 0 j μ) (fX13_readOperands (fu + 1001) 0 (nI (284 + 6 * cnt)) 0 ν) t μ ν (IO N n c cnt j cnt 2 T0 (R0 0)) (fun M t' _ μ' ν' => IO N n c (cnt + 1) j cnt 0 T0 (RF 0) M t' μ' ν') (FcI j) (FmI cnt) () := by
  rw [mop_0 hc]
  have s1 := j2_pp (I0 := IO N n c cnt j cnt 2 T0 (R0 0)) (fun _ _ w => io_mono w (Nat.le_succ _) (Nat.le_refl _) (fun _ _ _ _ z => z)) (fun _ _ _ _ _ _ w => io_mono w (Nat.le_refl _) (Nat.le_refl 2) (fun _ _ _ _ z => z)) (op_cond (M1 := M1) h (io_mono hI (Nat.le_succ _) (Nat.le_refl _) (fun _ _ _ _ z => z)) hc (fun B P m r z => by obtain ⟨_, z, _⟩ := z; exact z) fu)
  have key := j2_seq (Fc := FcI j) (Fm := FmI cnt) (F2 := fun μ => bnd (fX5_takeName (fu + 1001) 0 μ) fun x μ1 => some ((), wI μ1 9 j 5 x)) (FM2 := fun _ ν => fX13_readName (fu + 1001) 0 (nI (284 + 6 * cnt + 2)) ν) (I2 := fun M t' _ μ' ν' => IO N n c (cnt + 1) j cnt 0 T0 (spA (spJ (R0 0))) M t' μ' ν') (cv := ()) (fun _ _ _ => fci_trans) (fun _ _ _ => fmi_trans) s1
    (fun t' _ μ' ν' _ _ _ g i => op_name (z := 0) g i hc hM0 hM1 h0 fu)
    (fun μ0 μ' _ _ d => ⟨wI μ' 9 j 5 0, by show bnd _ _ = _; rw [d_name d, bnd_some], fci_w, kt_9⟩)
    (fun μ' ν' _ b => ⟨ν', b_name b (fu + 1000), fmi_rfl, fn_rfl, fun _ _ _ => rfl⟩)
  simp only [bnd_as, bnd_ckB, bnd_ite, bnd_some] at key ⊢
  refine j2_cong (fun M μx _ g i => ?_) h hI (j2_pp (fun _ _ w => w) (fun M t' b μ' ν' _ w => io_mono w (Nat.le_refl _) (by omega) (fun B P m r z => ?_)) key)
  · obtain ⟨-, -, -, -, -, i⟩ := i
    exact cop_0 (r0_op i)
  · obtain ⟨b, b1, e1, e2, P0, m0, ⟨k, k1, e3, e4, P1, r1, w, f1, f2⟩, f3, f4⟩ := z
    obtain ⟨w0, w1, w2, w3, w4, w5, w6, w7, w8, w9, w10, w11, w12, w13⟩ := w
    exact ⟨(f3 0 (by decide)).trans ((f1 0 (by decide)).trans w0), (f2 0 (by decide)).trans w10, (f3 4 (by decide)).trans ((f1 4 (by decide)).trans w4), (f3 5 (by decide)).trans ((f1 5 (by decide)).trans w5), (f4 6 (by decide)).trans w8, (f4 7 (by decide)).trans w9,
      k, b, k1, b1, (f3 1 (by decide)).trans e3, e1, (f4 1 (by decide)).trans w6, e4, (f2 3 (by decide)).trans w12, (f2 4 (by decide)).trans w13, e2⟩
theorem p_ops {N n j cnt t : Nat} {c : Nat → Int32} {T0 : Md → Nat → Int32} {M0 M1 : Md} {μ ν : Mem} (o : Nat) (ho : o ≤ 12) (h : PG N n c t μ ν) (hI : IO N n c cnt j cnt 2 T0 (R0 o) M0 t μ ν) (hc : cnt < 32) (hM0 : MV M0) (hM1 : MV M1) (h0 : ∀ x, M0.1 x = some 0) (fu : Nat) :
    J2 N n c M0 M1 (fun μ => fX5_readOperands (fu + 1001) 0 j μ) (fX13_readOperands (fu + 1001) 0 (nI (284 + 6 * cnt)) (nI o) ν) t μ ν (IO N n c cnt j cnt 2 T0 (R0 o)) (fun M t' _ μ' ν' => IO N n c (cnt + 1) j cnt 0 T0 (RF o) M t' μ' ν') (FcI j) (FmI cnt) () := by
  match o, ho with
  | 0, _ => exact jop_0 h hI hc hM0 hM1 h0 fu
  | 1, _ => exact jop_1 h hI hc hM0 hM1 h0 fu
  | 2, _ => exact jop_2 h hI hc hM0 hM1 h0 fu
  | 3, _ => exact jop_3 h hI hc hM0 hM1 h0 fu
  | 4, _ => exact jop_4 h hI hc hM0 hM1 h0 fu
  | 5, _ => exact jop_5 h hI hc hM0 hM1 h0 fu
  | 6, _ => exact jop_6 h hI hc hM0 hM1 h0 fu
  | 7, _ => exact jop_7 h hI hc hM0 hM1 h0 fu
  | 8, _ => exact jop_8 h hI hc hM0 hM1 h0 fu
  | 9, _ => exact jop_9 h hI hc hM0 hM1 h0 fu
  | 10, _ => exact jop_10 h hI hc hM0 hM1 h0 fu
  | 11, _ => exact jop_11 h hI hc hM0 hM1 h0 fu
  | 12, _ => exact jop_12 h hI hc hM0 hM1 h0 fu
  | n + 13, h => exact absurd h (by omega)
