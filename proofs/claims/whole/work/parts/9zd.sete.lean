/-! PARSING: the class's and the model's ways to a setting -/
theorem cs_17 {fu j : Nat} {μ : Mem} : fX5_readSetting fu 0 j 17 μ = bnd (fX11_takeNumber 0 1 255 μ) fun x μ1 => bnd (fX11_takeNumber 0 0 255 (wI μ1 8 j 4 ((256 : Int32) * x))) fun y μ2 => some ((), wI μ2 8 j 4 ((wI μ1 8 j 4 ((256 : Int32) * x)).1 8 j 4 + y)) := by
  unfold fX5_readSetting
  simp only [jn_eq, c_takePin]
  rw [sw_at (v := 27) (by decide), if_pos rfl]
  rfl
theorem cs_18 {fu j : Nat} {μ : Mem} : fX5_readSetting fu 0 j 18 μ = bnd (fX5_takeName fu 0 μ) fun x μ1 => bnd (fX5_takeName fu 0 (wI μ1 8 j 2 x)) fun y μ2 => some ((), wI μ2 8 j 3 y) := by
  unfold fX5_readSetting
  simp only [jn_eq, c_takePin]
  rw [sw_at (v := 28) (by decide), if_neg (by decide), if_pos rfl]
  rfl
theorem cs_19 {fu j : Nat} {μ : Mem} : fX5_readSetting fu 0 j 19 μ = bnd (fX11_takeNumber 0 0 15 μ) fun x μ1 => bnd (bnd (fX11_takeNumber 0 1 16 (wI μ1 8 j 5 x)) fun y μ2 => bnd (fX12_rotatedPins (((1 : Int32) <<< (y &&& 31)) - (1 : Int32)) ((wI μ1 8 j 5 x).1 8 j 5) μ2) fun z μ3 => some (z, μ3)) fun w μ4 => some ((), wI μ4 8 j 6 w) := by
  unfold fX5_readSetting
  simp only [jn_eq, c_takePin]
  rw [sw_at (v := 29) (by decide), if_neg (by decide), if_neg (by decide), if_pos rfl]
  rfl
theorem cs_20 {fu j : Nat} {μ : Mem} : fX5_readSetting fu 0 j 20 μ = bnd (fX11_takeNumber 0 0 15 μ) fun x μ1 => bnd (bnd (fX11_takeNumber 0 1 5 (wI μ1 8 j 7 x)) fun y μ2 => bnd (fX12_rotatedPins (((1 : Int32) <<< (y &&& 31)) - (1 : Int32)) ((wI μ1 8 j 7 x).1 8 j 7) μ2) fun z μ3 => some (z, μ3)) fun w μ4 => some ((), wI μ4 8 j 8 w) := by
  unfold fX5_readSetting
  simp only [jn_eq, c_takePin]
  rw [sw_at (v := 30) (by decide), if_neg (by decide), if_neg (by decide), if_neg (by decide), if_pos rfl]
  rfl
theorem cs_21 {fu j : Nat} {μ : Mem} : fX5_readSetting fu 0 j 21 μ = bnd (fX11_takeNumber 0 0 15 μ) fun x μ1 => bnd (bnd (fX11_takeNumber 0 1 4 (wI μ1 8 j 9 x)) fun y μ2 => bnd (fX12_rotatedPins (((1 : Int32) <<< (y &&& 31)) - (1 : Int32)) ((wI μ1 8 j 9 x).1 8 j 9) μ2) fun z μ3 => some (z, μ3)) fun w μ4 => some ((), wI μ4 8 j 10 w) := by
  unfold fX5_readSetting
  simp only [jn_eq, c_takePin]
  rw [sw_at (v := 31) (by decide), if_neg (by decide), if_neg (by decide), if_neg (by decide), if_neg (by decide), if_pos rfl]
  rfl
theorem cs_22 {fu j : Nat} {μ : Mem} : fX5_readSetting fu 0 j 22 μ = bnd (fX11_takeNumber 0 0 15 μ) fun x μ1 => some ((), wI μ1 8 j 11 x) := by
  unfold fX5_readSetting
  simp only [jn_eq, c_takePin]
  rw [sw_at (v := 32) (by decide), if_neg (by decide), if_neg (by decide), if_neg (by decide), if_neg (by decide), if_neg (by decide), if_pos rfl]
  rfl
theorem cs_23 {fu j : Nat} {μ : Mem} : fX5_readSetting fu 0 j 23 μ = bnd (fX11_takeNumber 0 0 15 μ) fun x μ1 => some ((), wI μ1 8 j 12 x) := by
  unfold fX5_readSetting
  simp only [jn_eq, c_takePin]
  rw [sw_at (v := 33) (by decide), if_neg (by decide), if_neg (by decide), if_neg (by decide), if_neg (by decide), if_neg (by decide), if_neg (by decide), if_pos rfl]
  rfl
theorem cs_24 {fu j : Nat} {μ : Mem} : fX5_readSetting fu 0 j 24 μ = some ((), wI μ 8 j 13 1) := by
  unfold fX5_readSetting fX5_readShifting
  simp only [jn_eq]
  rw [sw_at (v := 34) (by decide), if_neg (by decide), if_neg (by decide), if_neg (by decide), if_neg (by decide), if_neg (by decide), if_neg (by decide), if_neg (by decide), sw_at (v := 34) (by decide), if_pos rfl]
  rw [ckZ_ok (Or.inr rfl)]
  rfl
theorem cs_25 {fu j : Nat} {μ : Mem} : fX5_readSetting fu 0 j 25 μ = some ((), wI μ 8 j 14 1) := by
  unfold fX5_readSetting fX5_readShifting
  simp only [jn_eq]
  rw [sw_at (v := 35) (by decide), if_neg (by decide), if_neg (by decide), if_neg (by decide), if_neg (by decide), if_neg (by decide), if_neg (by decide), if_neg (by decide), sw_at (v := 35) (by decide), if_neg (by decide), if_pos rfl]
  rw [ckZ_ok (Or.inr rfl)]
  rfl
theorem cs_26 {fu j : Nat} {μ : Mem} : fX5_readSetting fu 0 j 26 μ = bnd (fX11_takeNumber 0 1 32 (wI μ 8 j 15 1)) fun x μ1 => some ((), wI μ1 8 j 17 x) := by
  unfold fX5_readSetting fX5_readShifting
  simp only [jn_eq]
  rw [sw_at (v := 36) (by decide), if_neg (by decide), if_neg (by decide), if_neg (by decide), if_neg (by decide), if_neg (by decide), if_neg (by decide), if_neg (by decide), sw_at (v := 36) (by decide), if_neg (by decide), if_neg (by decide), if_pos rfl]
  rw [ckZ_ok (Or.inr rfl)]
  simp only [bnd_as, nm_eq, bnd_some]
theorem cs_27 {fu j : Nat} {μ : Mem} : fX5_readSetting fu 0 j 27 μ = bnd (fX11_takeNumber 0 1 32 (wI μ 8 j 16 1)) fun x μ1 => some ((), wI μ1 8 j 18 x) := by
  unfold fX5_readSetting fX5_readShifting
  simp only [jn_eq]
  rw [sw_at (v := 37) (by decide), if_neg (by decide), if_neg (by decide), if_neg (by decide), if_neg (by decide), if_neg (by decide), if_neg (by decide), if_neg (by decide), sw_at (v := 37) (by decide), if_neg (by decide), if_neg (by decide), if_neg (by decide), if_pos rfl]
  rw [ckZ_ok (Or.inr rfl)]
  simp only [bnd_as, nm_eq, bnd_some]
theorem cs_28 {fu j : Nat} {μ : Mem} : fX5_readSetting fu 0 j 28 μ = some ((), wI μ 8 j 19 8) := by
  unfold fX5_readSetting fX5_readShifting
  simp only [jn_eq]
  rw [sw_at (v := 38) (by decide), if_neg (by decide), if_neg (by decide), if_neg (by decide), if_neg (by decide), if_neg (by decide), if_neg (by decide), if_neg (by decide), sw_at (v := 38) (by decide), if_neg (by decide), if_neg (by decide), if_neg (by decide), if_neg (by decide), if_pos rfl]
  rfl
theorem cs_29 {fu j : Nat} {μ : Mem} : fX5_readSetting fu 0 j 29 μ = some ((), wI μ 8 j 19 0) := by
  unfold fX5_readSetting fX5_readShifting
  simp only [jn_eq]
  rw [sw_at (v := 39) (by decide), if_neg (by decide), if_neg (by decide), if_neg (by decide), if_neg (by decide), if_neg (by decide), if_neg (by decide), if_neg (by decide), sw_at (v := 39) (by decide), if_neg (by decide), if_neg (by decide), if_neg (by decide), if_neg (by decide), if_neg (by decide), if_pos rfl]
  rfl
theorem e_add {e k : Nat} : nI (476 + 21 * e) + nI k = nI (476 + 21 * e + k) := nI_add _ _
theorem e_ck {α : Type} {e k : Nat} (he : e < 4) (hk : k < 21) {o : Option α} : ckI (nI (476 + 21 * e + k)) 700 o = o := ckI_nI (show 476 + 21 * e + k < 700 by omega) (by decide)
theorem e_cl {e k : Nat} (he : e < 4) (hk : k < 21) : (nI (476 + 21 * e + k)).toNatClampNeg = 476 + 21 * e + k := nI_clamp (by omega)
theorem ms_17 {N n t e : Nat} {c : Nat → Int32} {μ ν ν1 : Mem} (h : PG N n c t μ ν) (he : e < 4) (q : syA N n c t = 17) (fu : Nat) (yw : fX13_isWord (fu + 1001) 0 35 ν = some (1, ν)) (ya : fX13_accept (fu + 1001) 0 35 ν = some (1, ν1)) (ys : fX13_scan (fu + 1001) 0 ν = some ((), ν1)) :
    fX13_readSetting (fu + 1001) 0 (nI (476 + 21 * e)) ν = bnd (fX13_readClock (fu + 1001) 0 (nI (476 + 21 * e)) ν1) fun _ ν3 => fin ν3 := by
  have fe : ∀ μ1 : Mem, (if ¬ μ1.1 26 0 26 = 0 then ckZ 0 (some ((0 : Int32), μ1)) else ckZ 1 (some ((1 : Int32), μ1))) = fin μ1 := congrFun fin_eq
  unfold fX13_readSetting
  simp only [jn_eq, fe]
  rw [ya, bnd_some, if_neg (show ¬ (1 : Int32) = 0 by decide)]
theorem ms_18 {N n t e : Nat} {c : Nat → Int32} {μ ν ν1 : Mem} (h : PG N n c t μ ν) (he : e < 4) (q : syA N n c t = 18) (fu : Nat) (yw : fX13_isWord (fu + 1001) 0 36 ν = some (1, ν)) (ya : fX13_accept (fu + 1001) 0 36 ν = some (1, ν1)) (ys : fX13_scan (fu + 1001) 0 ν = some ((), ν1)) :
    fX13_readSetting (fu + 1001) 0 (nI (476 + 21 * e)) ν = bnd (fX13_readName (fu + 1001) 0 (nI (476 + 21 * e + 3)) ν1) fun _ ν2 => bnd (fX13_readName (fu + 1001) 0 (nI (476 + 21 * e + 4)) ν2) fun _ ν3 => fin ν3 := by
  have fe : ∀ μ1 : Mem, (if ¬ μ1.1 26 0 26 = 0 then ckZ 0 (some ((0 : Int32), μ1)) else ckZ 1 (some ((1 : Int32), μ1))) = fin μ1 := congrFun fin_eq
  unfold fX13_readSetting
  simp only [jn_eq, fe]
  rw [(no_acc h 17 35 (by decide) (by rw [q]; decide) fu).1, bnd_some, if_pos (show (0 : Int32) = 0 from rfl)]
  rw [ya, bnd_some, if_neg (show ¬ (1 : Int32) = 0 by decide)]
  rw [show nI (476 + 21 * e) + (3 : Int32) = nI (476 + 21 * e + 3) from e_add (k := 3), show nI (476 + 21 * e) + (4 : Int32) = nI (476 + 21 * e + 4) from e_add (k := 4)]
theorem ms_19 {N n t e : Nat} {c : Nat → Int32} {μ ν ν1 : Mem} (h : PG N n c t μ ν) (he : e < 4) (q : syA N n c t = 19) (fu : Nat) (yw : fX13_isWord (fu + 1001) 0 37 ν = some (1, ν)) (ya : fX13_accept (fu + 1001) 0 37 ν = some (1, ν1)) (ys : fX13_scan (fu + 1001) 0 ν = some ((), ν1)) :
    fX13_readSetting (fu + 1001) 0 (nI (476 + 21 * e)) ν = bnd (bnd (fX13_putNumber (fu + 1001) 0 (nI (476 + 21 * e + 5)) 0 15 ν1) fun _ ν2 => bnd (fX13_putNumber (fu + 1001) 0 (nI (476 + 21 * e + (5 + 1))) 1 16 ν2) fun _ ν3 => some ((), ν3)) fun _ ν3 => fin ν3 := by
  have fe : ∀ μ1 : Mem, (if ¬ μ1.1 26 0 26 = 0 then ckZ 0 (some ((0 : Int32), μ1)) else ckZ 1 (some ((1 : Int32), μ1))) = fin μ1 := congrFun fin_eq
  unfold fX13_readSetting
  simp only [jn_eq, fe]
  rw [(no_acc h 17 35 (by decide) (by rw [q]; decide) fu).1, bnd_some, if_pos (show (0 : Int32) = 0 from rfl)]
  rw [(no_acc h 18 36 (by decide) (by rw [q]; decide) fu).1, bnd_some, if_pos (show (0 : Int32) = 0 from rfl)]
  rw [yw, bnd_some, if_neg (show ¬ (1 : Int32) = 0 by decide)]
  unfold fX13_readGroup
  rw [ys, bnd_some, show nI (476 + 21 * e) + (5 : Int32) = nI (476 + 21 * e + 5) from e_add (k := 5), show nI (476 + 21 * e + 5) + (1 : Int32) = nI (476 + 21 * e + (5 + 1)) from nI_1 _]
theorem ms_20 {N n t e : Nat} {c : Nat → Int32} {μ ν ν1 : Mem} (h : PG N n c t μ ν) (he : e < 4) (q : syA N n c t = 20) (fu : Nat) (yw : fX13_isWord (fu + 1001) 0 38 ν = some (1, ν)) (ya : fX13_accept (fu + 1001) 0 38 ν = some (1, ν1)) (ys : fX13_scan (fu + 1001) 0 ν = some ((), ν1)) :
    fX13_readSetting (fu + 1001) 0 (nI (476 + 21 * e)) ν = bnd (bnd (fX13_putNumber (fu + 1001) 0 (nI (476 + 21 * e + 7)) 0 15 ν1) fun _ ν2 => bnd (fX13_putNumber (fu + 1001) 0 (nI (476 + 21 * e + (7 + 1))) 1 5 ν2) fun _ ν3 => some ((), ν3)) fun _ ν3 => fin ν3 := by
  have fe : ∀ μ1 : Mem, (if ¬ μ1.1 26 0 26 = 0 then ckZ 0 (some ((0 : Int32), μ1)) else ckZ 1 (some ((1 : Int32), μ1))) = fin μ1 := congrFun fin_eq
  unfold fX13_readSetting
  simp only [jn_eq, fe]
  rw [(no_acc h 17 35 (by decide) (by rw [q]; decide) fu).1, bnd_some, if_pos (show (0 : Int32) = 0 from rfl)]
  rw [(no_acc h 18 36 (by decide) (by rw [q]; decide) fu).1, bnd_some, if_pos (show (0 : Int32) = 0 from rfl)]
  rw [(no_acc h 19 37 (by decide) (by rw [q]; decide) fu).2, bnd_some, if_pos (show (0 : Int32) = 0 from rfl)]
  rw [yw, bnd_some, if_neg (show ¬ (1 : Int32) = 0 by decide)]
  unfold fX13_readGroup
  rw [ys, bnd_some, show nI (476 + 21 * e) + (7 : Int32) = nI (476 + 21 * e + 7) from e_add (k := 7), show nI (476 + 21 * e + 7) + (1 : Int32) = nI (476 + 21 * e + (7 + 1)) from nI_1 _]
theorem ms_21 {N n t e : Nat} {c : Nat → Int32} {μ ν ν1 : Mem} (h : PG N n c t μ ν) (he : e < 4) (q : syA N n c t = 21) (fu : Nat) (yw : fX13_isWord (fu + 1001) 0 39 ν = some (1, ν)) (ya : fX13_accept (fu + 1001) 0 39 ν = some (1, ν1)) (ys : fX13_scan (fu + 1001) 0 ν = some ((), ν1)) :
    fX13_readSetting (fu + 1001) 0 (nI (476 + 21 * e)) ν = bnd (bnd (fX13_putNumber (fu + 1001) 0 (nI (476 + 21 * e + 9)) 0 15 ν1) fun _ ν2 => bnd (fX13_putNumber (fu + 1001) 0 (nI (476 + 21 * e + (9 + 1))) 1 4 ν2) fun _ ν3 => some ((), ν3)) fun _ ν3 => fin ν3 := by
  have fe : ∀ μ1 : Mem, (if ¬ μ1.1 26 0 26 = 0 then ckZ 0 (some ((0 : Int32), μ1)) else ckZ 1 (some ((1 : Int32), μ1))) = fin μ1 := congrFun fin_eq
  unfold fX13_readSetting
  simp only [jn_eq, fe]
  rw [(no_acc h 17 35 (by decide) (by rw [q]; decide) fu).1, bnd_some, if_pos (show (0 : Int32) = 0 from rfl)]
  rw [(no_acc h 18 36 (by decide) (by rw [q]; decide) fu).1, bnd_some, if_pos (show (0 : Int32) = 0 from rfl)]
  rw [(no_acc h 19 37 (by decide) (by rw [q]; decide) fu).2, bnd_some, if_pos (show (0 : Int32) = 0 from rfl)]
  rw [(no_acc h 20 38 (by decide) (by rw [q]; decide) fu).2, bnd_some, if_pos (show (0 : Int32) = 0 from rfl)]
  rw [yw, bnd_some, if_neg (show ¬ (1 : Int32) = 0 by decide)]
  unfold fX13_readGroup
  rw [ys, bnd_some, show nI (476 + 21 * e) + (9 : Int32) = nI (476 + 21 * e + 9) from e_add (k := 9), show nI (476 + 21 * e + 9) + (1 : Int32) = nI (476 + 21 * e + (9 + 1)) from nI_1 _]
theorem ms_22 {N n t e : Nat} {c : Nat → Int32} {μ ν ν1 : Mem} (h : PG N n c t μ ν) (he : e < 4) (q : syA N n c t = 22) (fu : Nat) (yw : fX13_isWord (fu + 1001) 0 40 ν = some (1, ν)) (ya : fX13_accept (fu + 1001) 0 40 ν = some (1, ν1)) (ys : fX13_scan (fu + 1001) 0 ν = some ((), ν1)) :
    fX13_readSetting (fu + 1001) 0 (nI (476 + 21 * e)) ν = bnd (fX13_putNumber (fu + 1001) 0 (nI (476 + 21 * e + 11)) 0 15 ν1) fun _ ν2 => fin ν2 := by
  have fe : ∀ μ1 : Mem, (if ¬ μ1.1 26 0 26 = 0 then ckZ 0 (some ((0 : Int32), μ1)) else ckZ 1 (some ((1 : Int32), μ1))) = fin μ1 := congrFun fin_eq
  unfold fX13_readSetting
  simp only [jn_eq, fe]
  rw [(no_acc h 17 35 (by decide) (by rw [q]; decide) fu).1, bnd_some, if_pos (show (0 : Int32) = 0 from rfl)]
  rw [(no_acc h 18 36 (by decide) (by rw [q]; decide) fu).1, bnd_some, if_pos (show (0 : Int32) = 0 from rfl)]
  rw [(no_acc h 19 37 (by decide) (by rw [q]; decide) fu).2, bnd_some, if_pos (show (0 : Int32) = 0 from rfl)]
  rw [(no_acc h 20 38 (by decide) (by rw [q]; decide) fu).2, bnd_some, if_pos (show (0 : Int32) = 0 from rfl)]
  rw [(no_acc h 21 39 (by decide) (by rw [q]; decide) fu).2, bnd_some, if_pos (show (0 : Int32) = 0 from rfl)]
  rw [ya, bnd_some, if_neg (show ¬ (1 : Int32) = 0 by decide)]
  rw [show nI (476 + 21 * e) + (11 : Int32) = nI (476 + 21 * e + 11) from e_add (k := 11)]
theorem ms_23 {N n t e : Nat} {c : Nat → Int32} {μ ν ν1 : Mem} (h : PG N n c t μ ν) (he : e < 4) (q : syA N n c t = 23) (fu : Nat) (yw : fX13_isWord (fu + 1001) 0 41 ν = some (1, ν)) (ya : fX13_accept (fu + 1001) 0 41 ν = some (1, ν1)) (ys : fX13_scan (fu + 1001) 0 ν = some ((), ν1)) :
    fX13_readSetting (fu + 1001) 0 (nI (476 + 21 * e)) ν = bnd (fX13_putNumber (fu + 1001) 0 (nI (476 + 21 * e + 12)) 0 15 ν1) fun _ ν2 => fin ν2 := by
  have fe : ∀ μ1 : Mem, (if ¬ μ1.1 26 0 26 = 0 then ckZ 0 (some ((0 : Int32), μ1)) else ckZ 1 (some ((1 : Int32), μ1))) = fin μ1 := congrFun fin_eq
  unfold fX13_readSetting
  simp only [jn_eq, fe]
  rw [(no_acc h 17 35 (by decide) (by rw [q]; decide) fu).1, bnd_some, if_pos (show (0 : Int32) = 0 from rfl)]
  rw [(no_acc h 18 36 (by decide) (by rw [q]; decide) fu).1, bnd_some, if_pos (show (0 : Int32) = 0 from rfl)]
  rw [(no_acc h 19 37 (by decide) (by rw [q]; decide) fu).2, bnd_some, if_pos (show (0 : Int32) = 0 from rfl)]
  rw [(no_acc h 20 38 (by decide) (by rw [q]; decide) fu).2, bnd_some, if_pos (show (0 : Int32) = 0 from rfl)]
  rw [(no_acc h 21 39 (by decide) (by rw [q]; decide) fu).2, bnd_some, if_pos (show (0 : Int32) = 0 from rfl)]
  rw [(no_acc h 22 40 (by decide) (by rw [q]; decide) fu).1, bnd_some, if_pos (show (0 : Int32) = 0 from rfl)]
  rw [ya, bnd_some, if_neg (show ¬ (1 : Int32) = 0 by decide)]
  rw [show nI (476 + 21 * e) + (12 : Int32) = nI (476 + 21 * e + 12) from e_add (k := 12)]
theorem ms_24 {N n t e : Nat} {c : Nat → Int32} {μ ν ν1 : Mem} (h : PG N n c t μ ν) (he : e < 4) (q : syA N n c t = 24) (fu : Nat) (yw : fX13_isWord (fu + 1001) 0 42 ν = some (1, ν)) (ya : fX13_accept (fu + 1001) 0 42 ν = some (1, ν1)) (ys : fX13_scan (fu + 1001) 0 ν = some ((), ν1)) :
    fX13_readSetting (fu + 1001) 0 (nI (476 + 21 * e)) ν = some ((1 : Int32), wI ν1 27 1 (476 + 21 * e + 13) 1) := by
  have fe : ∀ μ1 : Mem, (if ¬ μ1.1 26 0 26 = 0 then ckZ 0 (some ((0 : Int32), μ1)) else ckZ 1 (some ((1 : Int32), μ1))) = fin μ1 := congrFun fin_eq
  have nw : ∀ k, k < 700 → wI ν 27 1 k (ν.1 27 1 k) = ν := fun k _ => wI_id
  unfold fX13_readSetting
  simp only [jn_eq, fe]
  rw [(no_acc h 17 35 (by decide) (by rw [q]; decide) fu).1, bnd_some, if_pos (show (0 : Int32) = 0 from rfl)]
  rw [(no_acc h 18 36 (by decide) (by rw [q]; decide) fu).1, bnd_some, if_pos (show (0 : Int32) = 0 from rfl)]
  rw [(no_acc h 19 37 (by decide) (by rw [q]; decide) fu).2, bnd_some, if_pos (show (0 : Int32) = 0 from rfl)]
  rw [(no_acc h 20 38 (by decide) (by rw [q]; decide) fu).2, bnd_some, if_pos (show (0 : Int32) = 0 from rfl)]
  rw [(no_acc h 21 39 (by decide) (by rw [q]; decide) fu).2, bnd_some, if_pos (show (0 : Int32) = 0 from rfl)]
  rw [(no_acc h 22 40 (by decide) (by rw [q]; decide) fu).1, bnd_some, if_pos (show (0 : Int32) = 0 from rfl)]
  rw [(no_acc h 23 41 (by decide) (by rw [q]; decide) fu).1, bnd_some, if_pos (show (0 : Int32) = 0 from rfl)]
  rw [(no_acc h 26 44 (by decide) (by rw [q]; decide) fu).2, bnd_some, if_pos (show (0 : Int32) = 0 from rfl)]
  rw [(no_acc h 27 45 (by decide) (by rw [q]; decide) fu).2, bnd_some, if_pos (show (0 : Int32) = 0 from rfl)]
  rw [(no_acc h 28 46 (by decide) (by rw [q]; decide) fu).2, bnd_some, if_pos (show (0 : Int32) = 0 from rfl)]
  rw [(no_acc h 29 47 (by decide) (by rw [q]; decide) fu).2, bnd_some, if_pos (show (0 : Int32) = 0 from rfl)]
  unfold fX13_readFlag
  simp only [jn_eq, nm_eq]
  rw [ya, bnd_some, if_neg (show ¬ (1 : Int32) = 0 by decide), show nI (476 + 21 * e) + (13 : Int32) = nI (476 + 21 * e + 13) from e_add (k := 13), e_cl he (by decide)]
  show bnd (ckI (nI (476 + 21 * e + 13)) 700 (ckZ 1 (some ((1 : Int32), wI ν1 27 1 (476 + 21 * e + 13) 1)))) _ = _
  rw [e_ck he (by decide), ckZ_ok (Or.inr rfl), bnd_some, if_pos (show ¬ (1 : Int32) = 0 by decide), ckZ_ok (Or.inr rfl)]
theorem ms_25 {N n t e : Nat} {c : Nat → Int32} {μ ν ν1 : Mem} (h : PG N n c t μ ν) (he : e < 4) (q : syA N n c t = 25) (fu : Nat) (yw : fX13_isWord (fu + 1001) 0 43 ν = some (1, ν)) (ya : fX13_accept (fu + 1001) 0 43 ν = some (1, ν1)) (ys : fX13_scan (fu + 1001) 0 ν = some ((), ν1)) :
    fX13_readSetting (fu + 1001) 0 (nI (476 + 21 * e)) ν = some ((1 : Int32), wI ν1 27 1 (476 + 21 * e + 14) 1) := by
  have fe : ∀ μ1 : Mem, (if ¬ μ1.1 26 0 26 = 0 then ckZ 0 (some ((0 : Int32), μ1)) else ckZ 1 (some ((1 : Int32), μ1))) = fin μ1 := congrFun fin_eq
  have nw : ∀ k, k < 700 → wI ν 27 1 k (ν.1 27 1 k) = ν := fun k _ => wI_id
  unfold fX13_readSetting
  simp only [jn_eq, fe]
  rw [(no_acc h 17 35 (by decide) (by rw [q]; decide) fu).1, bnd_some, if_pos (show (0 : Int32) = 0 from rfl)]
  rw [(no_acc h 18 36 (by decide) (by rw [q]; decide) fu).1, bnd_some, if_pos (show (0 : Int32) = 0 from rfl)]
  rw [(no_acc h 19 37 (by decide) (by rw [q]; decide) fu).2, bnd_some, if_pos (show (0 : Int32) = 0 from rfl)]
  rw [(no_acc h 20 38 (by decide) (by rw [q]; decide) fu).2, bnd_some, if_pos (show (0 : Int32) = 0 from rfl)]
  rw [(no_acc h 21 39 (by decide) (by rw [q]; decide) fu).2, bnd_some, if_pos (show (0 : Int32) = 0 from rfl)]
  rw [(no_acc h 22 40 (by decide) (by rw [q]; decide) fu).1, bnd_some, if_pos (show (0 : Int32) = 0 from rfl)]
  rw [(no_acc h 23 41 (by decide) (by rw [q]; decide) fu).1, bnd_some, if_pos (show (0 : Int32) = 0 from rfl)]
  rw [(no_acc h 26 44 (by decide) (by rw [q]; decide) fu).2, bnd_some, if_pos (show (0 : Int32) = 0 from rfl)]
  rw [(no_acc h 27 45 (by decide) (by rw [q]; decide) fu).2, bnd_some, if_pos (show (0 : Int32) = 0 from rfl)]
  rw [(no_acc h 28 46 (by decide) (by rw [q]; decide) fu).2, bnd_some, if_pos (show (0 : Int32) = 0 from rfl)]
  rw [(no_acc h 29 47 (by decide) (by rw [q]; decide) fu).2, bnd_some, if_pos (show (0 : Int32) = 0 from rfl)]
  have f0 : fX13_readFlag (fu + 1001) 0 (nI (476 + 21 * e) + 13) 42 ν = some (0, ν) := by
    unfold fX13_readFlag
    simp only [jn_eq, nm_eq]
    rw [(no_acc h 24 42 (by decide) (by rw [q]; decide) fu).1, bnd_some, if_pos (show (0 : Int32) = 0 from rfl), show nI (476 + 21 * e) + (13 : Int32) = nI (476 + 21 * e + 13) from e_add (k := 13), e_cl he (by decide)]
    show ckI (nI (476 + 21 * e + 13)) 700 (ckI (nI (476 + 21 * e + 13)) 700 (ckZ 0 (some ((0 : Int32), wI ν 27 1 (476 + 21 * e + 13) (ν.1 27 1 (476 + 21 * e + 13)))))) = _
    rw [e_ck he (by decide), e_ck he (by decide), ckZ_ok (Or.inl rfl), nw _ (by omega)]
  rw [f0, bnd_some, if_neg (show ¬ ¬ (0 : Int32) = 0 from fun z => z rfl)]
  unfold fX13_readFlag
  simp only [jn_eq, nm_eq]
  rw [ya, bnd_some, if_neg (show ¬ (1 : Int32) = 0 by decide), show nI (476 + 21 * e) + (14 : Int32) = nI (476 + 21 * e + 14) from e_add (k := 14), e_cl he (by decide)]
  show bnd (ckI (nI (476 + 21 * e + 14)) 700 (ckZ 1 (some ((1 : Int32), wI ν1 27 1 (476 + 21 * e + 14) 1)))) _ = _
  rw [e_ck he (by decide), ckZ_ok (Or.inr rfl), bnd_some, if_neg (show ¬ (1 : Int32) = 0 by decide), ckZ_ok (Or.inr rfl)]
theorem ms_26 {N n t e : Nat} {c : Nat → Int32} {μ ν ν1 : Mem} (h : PG N n c t μ ν) (he : e < 4) (q : syA N n c t = 26) (fu : Nat) (yw : fX13_isWord (fu + 1001) 0 44 ν = some (1, ν)) (ya : fX13_accept (fu + 1001) 0 44 ν = some (1, ν1)) (ys : fX13_scan (fu + 1001) 0 ν = some ((), ν1)) :
    fX13_readSetting (fu + 1001) 0 (nI (476 + 21 * e)) ν = bnd (bnd (fX13_putNumber (fu + 1001) 0 (nI (476 + 21 * e + 15)) 1 32 ν1) fun _ ν2 => some ((), wI ν2 27 1 (476 + 21 * e + (15 + 1)) 1)) fun _ ν3 => fin ν3 := by
  have fe : ∀ μ1 : Mem, (if ¬ μ1.1 26 0 26 = 0 then ckZ 0 (some ((0 : Int32), μ1)) else ckZ 1 (some ((1 : Int32), μ1))) = fin μ1 := congrFun fin_eq
  unfold fX13_readSetting
  simp only [jn_eq, fe]
  rw [(no_acc h 17 35 (by decide) (by rw [q]; decide) fu).1, bnd_some, if_pos (show (0 : Int32) = 0 from rfl)]
  rw [(no_acc h 18 36 (by decide) (by rw [q]; decide) fu).1, bnd_some, if_pos (show (0 : Int32) = 0 from rfl)]
  rw [(no_acc h 19 37 (by decide) (by rw [q]; decide) fu).2, bnd_some, if_pos (show (0 : Int32) = 0 from rfl)]
  rw [(no_acc h 20 38 (by decide) (by rw [q]; decide) fu).2, bnd_some, if_pos (show (0 : Int32) = 0 from rfl)]
  rw [(no_acc h 21 39 (by decide) (by rw [q]; decide) fu).2, bnd_some, if_pos (show (0 : Int32) = 0 from rfl)]
  rw [(no_acc h 22 40 (by decide) (by rw [q]; decide) fu).1, bnd_some, if_pos (show (0 : Int32) = 0 from rfl)]
  rw [(no_acc h 23 41 (by decide) (by rw [q]; decide) fu).1, bnd_some, if_pos (show (0 : Int32) = 0 from rfl)]
  rw [yw, bnd_some, if_neg (show ¬ (1 : Int32) = 0 by decide)]
  unfold fX13_readLimit
  simp only [nm_eq]
  rw [ys, bnd_some, show nI (476 + 21 * e) + (15 : Int32) = nI (476 + 21 * e + 15) from e_add (k := 15), show nI (476 + 21 * e + 15) + (1 : Int32) = nI (476 + 21 * e + (15 + 1)) from nI_1 _, e_cl he (by decide)]
  congr 2
  funext _ ν2
  exact e_ck he (by decide)
theorem ms_27 {N n t e : Nat} {c : Nat → Int32} {μ ν ν1 : Mem} (h : PG N n c t μ ν) (he : e < 4) (q : syA N n c t = 27) (fu : Nat) (yw : fX13_isWord (fu + 1001) 0 45 ν = some (1, ν)) (ya : fX13_accept (fu + 1001) 0 45 ν = some (1, ν1)) (ys : fX13_scan (fu + 1001) 0 ν = some ((), ν1)) :
    fX13_readSetting (fu + 1001) 0 (nI (476 + 21 * e)) ν = bnd (bnd (fX13_putNumber (fu + 1001) 0 (nI (476 + 21 * e + 17)) 1 32 ν1) fun _ ν2 => some ((), wI ν2 27 1 (476 + 21 * e + (17 + 1)) 1)) fun _ ν3 => fin ν3 := by
  have fe : ∀ μ1 : Mem, (if ¬ μ1.1 26 0 26 = 0 then ckZ 0 (some ((0 : Int32), μ1)) else ckZ 1 (some ((1 : Int32), μ1))) = fin μ1 := congrFun fin_eq
  unfold fX13_readSetting
  simp only [jn_eq, fe]
  rw [(no_acc h 17 35 (by decide) (by rw [q]; decide) fu).1, bnd_some, if_pos (show (0 : Int32) = 0 from rfl)]
  rw [(no_acc h 18 36 (by decide) (by rw [q]; decide) fu).1, bnd_some, if_pos (show (0 : Int32) = 0 from rfl)]
  rw [(no_acc h 19 37 (by decide) (by rw [q]; decide) fu).2, bnd_some, if_pos (show (0 : Int32) = 0 from rfl)]
  rw [(no_acc h 20 38 (by decide) (by rw [q]; decide) fu).2, bnd_some, if_pos (show (0 : Int32) = 0 from rfl)]
  rw [(no_acc h 21 39 (by decide) (by rw [q]; decide) fu).2, bnd_some, if_pos (show (0 : Int32) = 0 from rfl)]
  rw [(no_acc h 22 40 (by decide) (by rw [q]; decide) fu).1, bnd_some, if_pos (show (0 : Int32) = 0 from rfl)]
  rw [(no_acc h 23 41 (by decide) (by rw [q]; decide) fu).1, bnd_some, if_pos (show (0 : Int32) = 0 from rfl)]
  rw [(no_acc h 26 44 (by decide) (by rw [q]; decide) fu).2, bnd_some, if_pos (show (0 : Int32) = 0 from rfl)]
  rw [yw, bnd_some, if_neg (show ¬ (1 : Int32) = 0 by decide)]
  unfold fX13_readLimit
  simp only [nm_eq]
  rw [ys, bnd_some, show nI (476 + 21 * e) + (17 : Int32) = nI (476 + 21 * e + 17) from e_add (k := 17), show nI (476 + 21 * e + 17) + (1 : Int32) = nI (476 + 21 * e + (17 + 1)) from nI_1 _, e_cl he (by decide)]
  congr 2
  funext _ ν2
  exact e_ck he (by decide)
theorem ms_28 {N n t e : Nat} {c : Nat → Int32} {μ ν ν1 : Mem} (h : PG N n c t μ ν) (he : e < 4) (q : syA N n c t = 28) (fu : Nat) (yw : fX13_isWord (fu + 1001) 0 46 ν = some (1, ν)) (ya : fX13_accept (fu + 1001) 0 46 ν = some (1, ν1)) (ys : fX13_scan (fu + 1001) 0 ν = some ((), ν1)) :
    fX13_readSetting (fu + 1001) 0 (nI (476 + 21 * e)) ν = bnd (some ((), wI (wI ν1 27 1 (476 + 21 * e + 19) 8) 27 1 (476 + 21 * e + 20) (8 - 8))) fun _ ν3 => fin ν3 := by
  have fe : ∀ μ1 : Mem, (if ¬ μ1.1 26 0 26 = 0 then ckZ 0 (some ((0 : Int32), μ1)) else ckZ 1 (some ((1 : Int32), μ1))) = fin μ1 := congrFun fin_eq
  unfold fX13_readSetting
  simp only [jn_eq, fe]
  rw [(no_acc h 17 35 (by decide) (by rw [q]; decide) fu).1, bnd_some, if_pos (show (0 : Int32) = 0 from rfl)]
  rw [(no_acc h 18 36 (by decide) (by rw [q]; decide) fu).1, bnd_some, if_pos (show (0 : Int32) = 0 from rfl)]
  rw [(no_acc h 19 37 (by decide) (by rw [q]; decide) fu).2, bnd_some, if_pos (show (0 : Int32) = 0 from rfl)]
  rw [(no_acc h 20 38 (by decide) (by rw [q]; decide) fu).2, bnd_some, if_pos (show (0 : Int32) = 0 from rfl)]
  rw [(no_acc h 21 39 (by decide) (by rw [q]; decide) fu).2, bnd_some, if_pos (show (0 : Int32) = 0 from rfl)]
  rw [(no_acc h 22 40 (by decide) (by rw [q]; decide) fu).1, bnd_some, if_pos (show (0 : Int32) = 0 from rfl)]
  rw [(no_acc h 23 41 (by decide) (by rw [q]; decide) fu).1, bnd_some, if_pos (show (0 : Int32) = 0 from rfl)]
  rw [(no_acc h 26 44 (by decide) (by rw [q]; decide) fu).2, bnd_some, if_pos (show (0 : Int32) = 0 from rfl)]
  rw [(no_acc h 27 45 (by decide) (by rw [q]; decide) fu).2, bnd_some, if_pos (show (0 : Int32) = 0 from rfl)]
  rw [yw, bnd_some, if_neg (show ¬ (1 : Int32) = 0 by decide)]
  unfold fX13_join
  simp only [nm_eq]
  rw [ys, bnd_some, show nI (476 + 21 * e) + (19 : Int32) = nI (476 + 21 * e + 19) from e_add (k := 19), show nI (476 + 21 * e) + (20 : Int32) = nI (476 + 21 * e + 20) from e_add (k := 20), e_cl he (by decide), e_cl he (by decide)]
  show bnd (ckI (nI (476 + 21 * e + 19)) 700 (ckI (nI (476 + 21 * e + 20)) 700 _)) _ = _
  rw [e_ck he (by decide), e_ck he (by decide)]
theorem ms_29 {N n t e : Nat} {c : Nat → Int32} {μ ν ν1 : Mem} (h : PG N n c t μ ν) (he : e < 4) (q : syA N n c t = 29) (fu : Nat) (yw : fX13_isWord (fu + 1001) 0 47 ν = some (1, ν)) (ya : fX13_accept (fu + 1001) 0 47 ν = some (1, ν1)) (ys : fX13_scan (fu + 1001) 0 ν = some ((), ν1)) :
    fX13_readSetting (fu + 1001) 0 (nI (476 + 21 * e)) ν = bnd (some ((), wI (wI ν1 27 1 (476 + 21 * e + 19) 0) 27 1 (476 + 21 * e + 20) (8 - 0))) fun _ ν3 => fin ν3 := by
  have fe : ∀ μ1 : Mem, (if ¬ μ1.1 26 0 26 = 0 then ckZ 0 (some ((0 : Int32), μ1)) else ckZ 1 (some ((1 : Int32), μ1))) = fin μ1 := congrFun fin_eq
  unfold fX13_readSetting
  simp only [jn_eq, fe]
  rw [(no_acc h 17 35 (by decide) (by rw [q]; decide) fu).1, bnd_some, if_pos (show (0 : Int32) = 0 from rfl)]
  rw [(no_acc h 18 36 (by decide) (by rw [q]; decide) fu).1, bnd_some, if_pos (show (0 : Int32) = 0 from rfl)]
  rw [(no_acc h 19 37 (by decide) (by rw [q]; decide) fu).2, bnd_some, if_pos (show (0 : Int32) = 0 from rfl)]
  rw [(no_acc h 20 38 (by decide) (by rw [q]; decide) fu).2, bnd_some, if_pos (show (0 : Int32) = 0 from rfl)]
  rw [(no_acc h 21 39 (by decide) (by rw [q]; decide) fu).2, bnd_some, if_pos (show (0 : Int32) = 0 from rfl)]
  rw [(no_acc h 22 40 (by decide) (by rw [q]; decide) fu).1, bnd_some, if_pos (show (0 : Int32) = 0 from rfl)]
  rw [(no_acc h 23 41 (by decide) (by rw [q]; decide) fu).1, bnd_some, if_pos (show (0 : Int32) = 0 from rfl)]
  rw [(no_acc h 26 44 (by decide) (by rw [q]; decide) fu).2, bnd_some, if_pos (show (0 : Int32) = 0 from rfl)]
  rw [(no_acc h 27 45 (by decide) (by rw [q]; decide) fu).2, bnd_some, if_pos (show (0 : Int32) = 0 from rfl)]
  rw [(no_acc h 28 46 (by decide) (by rw [q]; decide) fu).2, bnd_some, if_pos (show (0 : Int32) = 0 from rfl)]
  rw [yw, bnd_some, if_neg (show ¬ (1 : Int32) = 0 by decide)]
  unfold fX13_join
  simp only [nm_eq]
  rw [ys, bnd_some, show nI (476 + 21 * e) + (19 : Int32) = nI (476 + 21 * e + 19) from e_add (k := 19), show nI (476 + 21 * e) + (20 : Int32) = nI (476 + 21 * e + 20) from e_add (k := 20), e_cl he (by decide), e_cl he (by decide)]
  show bnd (ckI (nI (476 + 21 * e + 19)) 700 (ckI (nI (476 + 21 * e + 20)) 700 _)) _ = _
  rw [e_ck he (by decide), e_ck he (by decide)]
