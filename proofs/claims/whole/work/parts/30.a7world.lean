/-! THE MODEL BESIDE THE CLASS: wl 2 -/
def offM (κ n : Nat) : Nat := match κ with
  | 26 => 0
  | 27 => 1 + n
  | 28 => [6, 7, 9, 10, 11, 12, 13, 14, 19, 20, 21, 22, 23, 24, 26, 27, 28].getD n 0
  | 29 => 8
  | _ => [15, 16, 17, 18, 25].getD n 0
def isM (κ : Nat) : Bool := 26 ≤ κ && κ ≤ 30
def ad2 (ad : Nat → Nat → Nat) (b b2 b3 : Nat) : Nat → Nat → Nat := fun κ n => if isC κ then b + offC κ n else if isM κ then b2 + offM κ n else if κ = 31 then b3 else ad κ n
def flds : List Int32 := [-1, 1, 2, 3, 4, 5, 6, 7, 8, 9, 11, 12]
def muM (κ n k : Nat) : Int32 := match κ with
  | 26 => if k = 28 then -1 else 0
  | 27 => if n = 0 then (if k = 2 then -1 else 0) else 0
  | 28 => if n = 14 then flds.getD k 0 else 0
  | _ => 0
def mu2 (μ : Mem) : Mem := (fun κ n k => if isM κ then muM κ n k else μ.1 κ n k, μ.2.1, fun κ n k => if κ = 31 then 0 else μ.2.2 κ n k)
/-- the kinds that a cell refers to -/
def rfs : KD → List Nat
  | (_, .inl (_, sl)) => sl.filterMap (fun sp => sp.map (·.1))
  | (_, .inr (_, _, some (some (κ, _)))) => [κ]
  | _ => []
theorem cellD_congr {ad ad' : Nat → Nat → Nat} {ty : Nat → ClassId} {n : Nat} {a : Nat → Int32} {b : Nat → Nat} {c : Nat → Int64} : ∀ {d : KD} (h : ∀ κ ∈ rfs d, ad κ = ad' κ), cellD ad ty n a b c d = cellD ad' ty n a b c d
  | (cnt, .inl (ci, sl)), h => by
    show Sum.inr (ci, sl.mapIdx (fun k sp => sv ad n a b k sp)) = Sum.inr (ci, sl.mapIdx (fun k sp => sv ad' n a b k sp))
    congr 2
    refine List.ext_getElem? fun i => ?_
    rw [List.getElem?_mapIdx, List.getElem?_mapIdx]
    cases hs : sl[i]? with
    | none => rfl
    | some sp =>
      show some _ = some _
      congr 1
      have hm := List.mem_of_getElem? hs
      match sp, hm with
      | none, _ => rfl
      | some (κ, none), hm => show Value.ref (ad κ (b i)) = Value.ref (ad' κ (b i)); rw [h κ (List.mem_filterMap.mpr ⟨_, hm, rfl⟩)]
      | some (κ, some g), hm => show Value.ref (ad κ (g n)) = Value.ref (ad' κ (g n)); rw [h κ (List.mem_filterMap.mpr ⟨_, hm, rfl⟩)]
  | (cnt, .inr (t, len, none)), h => rfl
  | (cnt, .inr (t, len, some none)), h => rfl
  | (cnt, .inr (t, len, some (some (κ, none)))), h => by
    show Sum.inl (ty t, len b n, Sum.inr (Sum.inr (Sum.inr (Sum.inr (fun k => some (ad κ (b k))))))) = Sum.inl (ty t, len b n, Sum.inr (Sum.inr (Sum.inr (Sum.inr (fun k => some (ad' κ (b k)))))))
    rw [h κ List.mem_cons_self]
  | (cnt, .inr (t, len, some (some (κ, some g)))), h => by
    show Sum.inl (ty t, len b n, Sum.inr (Sum.inr (Sum.inr (Sum.inr (fun k => some (ad κ (g n k))))))) = Sum.inl (ty t, len b n, Sum.inr (Sum.inr (Sum.inr (Sum.inr (fun k => some (ad' κ (g n k)))))))
    rw [h κ List.mem_cons_self]
theorem rfs_C : ∀ κ, κ < 34 → isC κ = true → ∀ q ∈ rfs ((kdL 2).getD κ (0, .inl (0, []))), isC q = true ∨ 50 ≤ q := by decide +kernel
theorem kdL_C : ∀ κ, κ < 34 → isC κ = true → (kdL 0)[κ]? = (kdL 2)[κ]? := by
  intro κ h1 h2
  match κ, h1, h2 with
  | 0, _, _ => rfl
  | 1, _, _ => rfl
  | 2, _, _ => rfl
  | 3, _, _ => rfl
  | 4, _, _ => rfl
  | 5, _, _ => rfl
  | 6, _, _ => rfl
  | 7, _, _ => rfl
  | 8, _, _ => rfl
  | 9, _, _ => rfl
  | 10, _, _ => rfl
  | 11, _, _ => rfl
  | 12, _, _ => rfl
  | 13, _, _ => rfl
  | 14, _, _ => rfl
  | 15, _, _ => rfl
  | 16, _, _ => rfl
  | 17, _, _ => rfl
  | 18, _, _ => rfl
  | 19, _, _ => rfl
  | 20, _, _ => rfl
  | 21, _, _ => rfl
  | 22, _, _ => rfl
  | 23, _, _ => rfl
  | 24, _, _ => rfl
  | 25, _, _ => rfl
  | 26, _, h2 => exact absurd h2 (by decide)
  | 27, _, h2 => exact absurd h2 (by decide)
  | 28, _, h2 => exact absurd h2 (by decide)
  | 29, _, h2 => exact absurd h2 (by decide)
  | 30, _, h2 => exact absurd h2 (by decide)
  | 31, _, h2 => exact absurd h2 (by decide)
  | 32, _, _ => rfl
  | 33, _, _ => rfl
  | κ + 34, h1, _ => exact absurd h1 (by omega)
theorem ad2_P {ad : Nat → Nat → Nat} {b b2 b3 κ : Nat} (h : isC κ = true ∨ 50 ≤ κ) : adP ad b κ = ad2 ad b b2 b3 κ := by
  funext n
  unfold adP ad2
  by_cases hc : isC κ = true
  · rw [if_pos hc, if_pos hc]
  · rw [if_neg hc, if_neg hc]
    have h2 : 50 ≤ κ := h.resolve_left hc
    rw [if_neg (by unfold isM; simp; omega), if_neg (by omega)]
theorem isC_M {κ : Nat} (h : isC κ = true) : isM κ = false ∧ κ ≠ 31 := by
  unfold isC at h
  unfold isM
  simp at h ⊢
  omega
theorem cell_C {ad : Nat → Nat → Nat} {ty : Nat → ClassId} {b b2 b3 κ n : Nat} {μ : Mem} (hκ : κ < 34) (hc : isC κ = true) : cellK (kdL 2) (ad2 ad b b2 b3) ty (mu2 μ) κ n = cellK (kdL 0) (adP ad b) ty μ κ n := by
  unfold cellK
  have e0 : (kdL 0).getD κ (0, .inl (0, [])) = (kdL 2).getD κ (0, .inl (0, [])) := by rw [List.getD_eq_getElem?_getD, List.getD_eq_getElem?_getD, kdL_C κ hκ hc]
  have e1 : (mu2 μ).1 κ n = μ.1 κ n := funext fun k => if_neg (by rw [(isC_M hc).1]; decide)
  have e2 : (mu2 μ).2.2 κ n = μ.2.2 κ n := funext fun k => if_neg (isC_M hc).2
  rw [e0, e1, e2]
  exact (cellD_congr fun q hq => ad2_P (rfs_C κ hκ hc q hq)).symm
theorem pw_26_0 {D : va_G} {ad : Nat → Nat → Nat} {ty : Nat → ClassId} {b b2 b3 : Nat} {μ : Mem} {H : Heap} (hP : va_P D vwCl (tp b2 (tcMod ad ty b2)) H) : va_at D vwCl (ad2 ad b b2 b3 26 0, cellK (kdL 2) (ad2 ad b b2 b3) ty (mu2 μ) 26 0) H := by
  have h := hP 0 _ (tp_get (k := 0) (show (tcMod ad ty b2)[0]? = some _ from rfl))
  exact at_obj2 h (kk26 (vv := 2) (by decide)) rfl rfl (fun k sp hk => match k, hk with
    | 0, hk => by cases hk; rfl
    | 1, hk => by cases hk; rfl
    | 2, hk => by cases hk; rfl
    | 3, hk => by cases hk; rfl
    | 4, hk => by cases hk; rfl
    | 5, hk => by cases hk; rfl
    | 6, hk => by cases hk; rfl
    | 7, hk => by cases hk; rfl
    | 8, hk => by cases hk; rfl
    | 9, hk => by cases hk; rfl
    | 10, hk => by cases hk; rfl
    | 11, hk => by cases hk; rfl
    | 12, hk => by cases hk; rfl
    | 13, hk => by cases hk; rfl
    | 14, hk => by cases hk; rfl
    | 15, hk => by cases hk; rfl
    | 16, hk => by cases hk; rfl
    | 17, hk => by cases hk; rfl
    | 18, hk => by cases hk; rfl
    | 19, hk => by cases hk; rfl
    | 20, hk => by cases hk; rfl
    | 21, hk => by cases hk; rfl
    | 22, hk => by cases hk; rfl
    | 23, hk => by cases hk; rfl
    | 24, hk => by cases hk; rfl
    | 25, hk => by cases hk; rfl
    | 26, hk => by cases hk; rfl
    | 27, hk => by cases hk; rfl
    | 28, hk => by cases hk; rfl
    | 29, hk => by cases hk; rfl
    | 30, hk => by cases hk; rfl
    | 31, hk => by cases hk; rfl
    | 32, hk => by cases hk; rfl
    | 33, hk => by cases hk; rfl
    | 34, hk => by cases hk; rfl
    | 35, hk => by cases hk; rfl
    | 36, hk => by cases hk; rfl
    | 37, hk => by cases hk; rfl
    | 38, hk => by cases hk; rfl
    | 39, hk => by cases hk; rfl
    | 40, hk => by cases hk; rfl
    | 41, hk => by cases hk; rfl
    | 42, hk => by cases hk; rfl
    | 43, hk => by cases hk; rfl
    | 44, hk => by cases hk; rfl
    | 45, hk => by cases hk; rfl
    | 46, hk => by cases hk; rfl
    | _ + 47, hk => nomatch hk)
theorem pw_27_0 {D : va_G} {ad : Nat → Nat → Nat} {ty : Nat → ClassId} {b b2 b3 : Nat} {μ : Mem} {H : Heap} (hP : va_P D vwCl (tp b2 (tcMod ad ty b2)) H) : va_at D vwCl (ad2 ad b b2 b3 27 0, cellK (kdL 2) (ad2 ad b b2 b3) ty (mu2 μ) 27 0) H := by
  have h := hP 1 _ (tp_get (k := 1) (show (tcMod ad ty b2)[1]? = some _ from rfl))
  exact at_arrI h (kk27 (vv := 2) (by decide)) rfl rfl (fun k _ => rfl)
theorem pw_27_1 {D : va_G} {ad : Nat → Nat → Nat} {ty : Nat → ClassId} {b b2 b3 : Nat} {μ : Mem} {H : Heap} (hP : va_P D vwCl (tp b2 (tcMod ad ty b2)) H) : va_at D vwCl (ad2 ad b b2 b3 27 1, cellK (kdL 2) (ad2 ad b b2 b3) ty (mu2 μ) 27 1) H := by
  have h := hP 2 _ (tp_get (k := 2) (show (tcMod ad ty b2)[2]? = some _ from rfl))
  exact at_arrI h (kk27 (vv := 2) (by decide)) rfl rfl (fun k _ => rfl)
theorem pw_27_2 {D : va_G} {ad : Nat → Nat → Nat} {ty : Nat → ClassId} {b b2 b3 : Nat} {μ : Mem} {H : Heap} (hP : va_P D vwCl (tp b2 (tcMod ad ty b2)) H) : va_at D vwCl (ad2 ad b b2 b3 27 2, cellK (kdL 2) (ad2 ad b b2 b3) ty (mu2 μ) 27 2) H := by
  have h := hP 3 _ (tp_get (k := 3) (show (tcMod ad ty b2)[3]? = some _ from rfl))
  exact at_arrI h (kk27 (vv := 2) (by decide)) rfl rfl (fun k _ => rfl)
theorem pw_27_3 {D : va_G} {ad : Nat → Nat → Nat} {ty : Nat → ClassId} {b b2 b3 : Nat} {μ : Mem} {H : Heap} (hP : va_P D vwCl (tp b2 (tcMod ad ty b2)) H) : va_at D vwCl (ad2 ad b b2 b3 27 3, cellK (kdL 2) (ad2 ad b b2 b3) ty (mu2 μ) 27 3) H := by
  have h := hP 4 _ (tp_get (k := 4) (show (tcMod ad ty b2)[4]? = some _ from rfl))
  exact at_arrI h (kk27 (vv := 2) (by decide)) rfl rfl (fun k _ => rfl)
theorem pw_27_4 {D : va_G} {ad : Nat → Nat → Nat} {ty : Nat → ClassId} {b b2 b3 : Nat} {μ : Mem} {H : Heap} (hP : va_P D vwCl (tp b2 (tcMod ad ty b2)) H) : va_at D vwCl (ad2 ad b b2 b3 27 4, cellK (kdL 2) (ad2 ad b b2 b3) ty (mu2 μ) 27 4) H := by
  have h := hP 5 _ (tp_get (k := 5) (show (tcMod ad ty b2)[5]? = some _ from rfl))
  exact at_arrI h (kk27 (vv := 2) (by decide)) rfl rfl (fun k _ => rfl)
theorem pw_28_0 {D : va_G} {ad : Nat → Nat → Nat} {ty : Nat → ClassId} {b b2 b3 : Nat} {μ : Mem} {H : Heap} (hP : va_P D vwCl (tp b2 (tcMod ad ty b2)) H) : va_at D vwCl (ad2 ad b b2 b3 28 0, cellK (kdL 2) (ad2 ad b b2 b3) ty (mu2 μ) 28 0) H := by
  have h := hP 6 _ (tp_get (k := 6) (show (tcMod ad ty b2)[6]? = some _ from rfl))
  exact at_arrI h (kk28 (vv := 2) (by decide)) rfl rfl (fun k hk => rfl)
theorem pw_28_1 {D : va_G} {ad : Nat → Nat → Nat} {ty : Nat → ClassId} {b b2 b3 : Nat} {μ : Mem} {H : Heap} (hP : va_P D vwCl (tp b2 (tcMod ad ty b2)) H) : va_at D vwCl (ad2 ad b b2 b3 28 1, cellK (kdL 2) (ad2 ad b b2 b3) ty (mu2 μ) 28 1) H := by
  have h := hP 7 _ (tp_get (k := 7) (show (tcMod ad ty b2)[7]? = some _ from rfl))
  exact at_arrI h (kk28 (vv := 2) (by decide)) rfl rfl (fun k hk => rfl)
theorem pw_28_2 {D : va_G} {ad : Nat → Nat → Nat} {ty : Nat → ClassId} {b b2 b3 : Nat} {μ : Mem} {H : Heap} (hP : va_P D vwCl (tp b2 (tcMod ad ty b2)) H) : va_at D vwCl (ad2 ad b b2 b3 28 2, cellK (kdL 2) (ad2 ad b b2 b3) ty (mu2 μ) 28 2) H := by
  have h := hP 9 _ (tp_get (k := 9) (show (tcMod ad ty b2)[9]? = some _ from rfl))
  exact at_arrI h (kk28 (vv := 2) (by decide)) rfl rfl (fun k hk => rfl)
theorem pw_28_3 {D : va_G} {ad : Nat → Nat → Nat} {ty : Nat → ClassId} {b b2 b3 : Nat} {μ : Mem} {H : Heap} (hP : va_P D vwCl (tp b2 (tcMod ad ty b2)) H) : va_at D vwCl (ad2 ad b b2 b3 28 3, cellK (kdL 2) (ad2 ad b b2 b3) ty (mu2 μ) 28 3) H := by
  have h := hP 10 _ (tp_get (k := 10) (show (tcMod ad ty b2)[10]? = some _ from rfl))
  exact at_arrI h (kk28 (vv := 2) (by decide)) rfl rfl (fun k hk => rfl)
theorem pw_28_4 {D : va_G} {ad : Nat → Nat → Nat} {ty : Nat → ClassId} {b b2 b3 : Nat} {μ : Mem} {H : Heap} (hP : va_P D vwCl (tp b2 (tcMod ad ty b2)) H) : va_at D vwCl (ad2 ad b b2 b3 28 4, cellK (kdL 2) (ad2 ad b b2 b3) ty (mu2 μ) 28 4) H := by
  have h := hP 11 _ (tp_get (k := 11) (show (tcMod ad ty b2)[11]? = some _ from rfl))
  exact at_arrI h (kk28 (vv := 2) (by decide)) rfl rfl (fun k hk => rfl)
theorem pw_28_5 {D : va_G} {ad : Nat → Nat → Nat} {ty : Nat → ClassId} {b b2 b3 : Nat} {μ : Mem} {H : Heap} (hP : va_P D vwCl (tp b2 (tcMod ad ty b2)) H) : va_at D vwCl (ad2 ad b b2 b3 28 5, cellK (kdL 2) (ad2 ad b b2 b3) ty (mu2 μ) 28 5) H := by
  have h := hP 12 _ (tp_get (k := 12) (show (tcMod ad ty b2)[12]? = some _ from rfl))
  exact at_arrI h (kk28 (vv := 2) (by decide)) rfl rfl (fun k hk => rfl)
theorem pw_28_6 {D : va_G} {ad : Nat → Nat → Nat} {ty : Nat → ClassId} {b b2 b3 : Nat} {μ : Mem} {H : Heap} (hP : va_P D vwCl (tp b2 (tcMod ad ty b2)) H) : va_at D vwCl (ad2 ad b b2 b3 28 6, cellK (kdL 2) (ad2 ad b b2 b3) ty (mu2 μ) 28 6) H := by
  have h := hP 13 _ (tp_get (k := 13) (show (tcMod ad ty b2)[13]? = some _ from rfl))
  exact at_arrI h (kk28 (vv := 2) (by decide)) rfl rfl (fun k hk => rfl)
theorem pw_28_7 {D : va_G} {ad : Nat → Nat → Nat} {ty : Nat → ClassId} {b b2 b3 : Nat} {μ : Mem} {H : Heap} (hP : va_P D vwCl (tp b2 (tcMod ad ty b2)) H) : va_at D vwCl (ad2 ad b b2 b3 28 7, cellK (kdL 2) (ad2 ad b b2 b3) ty (mu2 μ) 28 7) H := by
  have h := hP 14 _ (tp_get (k := 14) (show (tcMod ad ty b2)[14]? = some _ from rfl))
  exact at_arrI h (kk28 (vv := 2) (by decide)) rfl rfl (fun k hk => rfl)
theorem pw_28_8 {D : va_G} {ad : Nat → Nat → Nat} {ty : Nat → ClassId} {b b2 b3 : Nat} {μ : Mem} {H : Heap} (hP : va_P D vwCl (tp b2 (tcMod ad ty b2)) H) : va_at D vwCl (ad2 ad b b2 b3 28 8, cellK (kdL 2) (ad2 ad b b2 b3) ty (mu2 μ) 28 8) H := by
  have h := hP 19 _ (tp_get (k := 19) (show (tcMod ad ty b2)[19]? = some _ from rfl))
  exact at_arrI h (kk28 (vv := 2) (by decide)) rfl rfl (fun k hk => rfl)
theorem pw_28_9 {D : va_G} {ad : Nat → Nat → Nat} {ty : Nat → ClassId} {b b2 b3 : Nat} {μ : Mem} {H : Heap} (hP : va_P D vwCl (tp b2 (tcMod ad ty b2)) H) : va_at D vwCl (ad2 ad b b2 b3 28 9, cellK (kdL 2) (ad2 ad b b2 b3) ty (mu2 μ) 28 9) H := by
  have h := hP 20 _ (tp_get (k := 20) (show (tcMod ad ty b2)[20]? = some _ from rfl))
  exact at_arrI h (kk28 (vv := 2) (by decide)) rfl rfl (fun k hk => rfl)
theorem pw_28_10 {D : va_G} {ad : Nat → Nat → Nat} {ty : Nat → ClassId} {b b2 b3 : Nat} {μ : Mem} {H : Heap} (hP : va_P D vwCl (tp b2 (tcMod ad ty b2)) H) : va_at D vwCl (ad2 ad b b2 b3 28 10, cellK (kdL 2) (ad2 ad b b2 b3) ty (mu2 μ) 28 10) H := by
  have h := hP 21 _ (tp_get (k := 21) (show (tcMod ad ty b2)[21]? = some _ from rfl))
  exact at_arrI h (kk28 (vv := 2) (by decide)) rfl rfl (fun k hk => rfl)
theorem pw_28_11 {D : va_G} {ad : Nat → Nat → Nat} {ty : Nat → ClassId} {b b2 b3 : Nat} {μ : Mem} {H : Heap} (hP : va_P D vwCl (tp b2 (tcMod ad ty b2)) H) : va_at D vwCl (ad2 ad b b2 b3 28 11, cellK (kdL 2) (ad2 ad b b2 b3) ty (mu2 μ) 28 11) H := by
  have h := hP 22 _ (tp_get (k := 22) (show (tcMod ad ty b2)[22]? = some _ from rfl))
  exact at_arrI h (kk28 (vv := 2) (by decide)) rfl rfl (fun k hk => rfl)
theorem pw_28_12 {D : va_G} {ad : Nat → Nat → Nat} {ty : Nat → ClassId} {b b2 b3 : Nat} {μ : Mem} {H : Heap} (hP : va_P D vwCl (tp b2 (tcMod ad ty b2)) H) : va_at D vwCl (ad2 ad b b2 b3 28 12, cellK (kdL 2) (ad2 ad b b2 b3) ty (mu2 μ) 28 12) H := by
  have h := hP 23 _ (tp_get (k := 23) (show (tcMod ad ty b2)[23]? = some _ from rfl))
  exact at_arrI h (kk28 (vv := 2) (by decide)) rfl rfl (fun k hk => rfl)
theorem pw_28_13 {D : va_G} {ad : Nat → Nat → Nat} {ty : Nat → ClassId} {b b2 b3 : Nat} {μ : Mem} {H : Heap} (hP : va_P D vwCl (tp b2 (tcMod ad ty b2)) H) : va_at D vwCl (ad2 ad b b2 b3 28 13, cellK (kdL 2) (ad2 ad b b2 b3) ty (mu2 μ) 28 13) H := by
  have h := hP 24 _ (tp_get (k := 24) (show (tcMod ad ty b2)[24]? = some _ from rfl))
  exact at_arrI h (kk28 (vv := 2) (by decide)) rfl rfl (fun k hk => rfl)
theorem pw_28_14 {D : va_G} {ad : Nat → Nat → Nat} {ty : Nat → ClassId} {b b2 b3 : Nat} {μ : Mem} {H : Heap} (hP : va_P D vwCl (tp b2 (tcMod ad ty b2)) H) : va_at D vwCl (ad2 ad b b2 b3 28 14, cellK (kdL 2) (ad2 ad b b2 b3) ty (mu2 μ) 28 14) H := by
  have h := hP 26 _ (tp_get (k := 26) (show (tcMod ad ty b2)[26]? = some _ from rfl))
  exact at_arrI h (kk28 (vv := 2) (by decide)) rfl rfl (fun k hk => if_pos hk)
theorem pw_28_15 {D : va_G} {ad : Nat → Nat → Nat} {ty : Nat → ClassId} {b b2 b3 : Nat} {μ : Mem} {H : Heap} (hP : va_P D vwCl (tp b2 (tcMod ad ty b2)) H) : va_at D vwCl (ad2 ad b b2 b3 28 15, cellK (kdL 2) (ad2 ad b b2 b3) ty (mu2 μ) 28 15) H := by
  have h := hP 27 _ (tp_get (k := 27) (show (tcMod ad ty b2)[27]? = some _ from rfl))
  exact at_arrI h (kk28 (vv := 2) (by decide)) rfl rfl (fun k hk => rfl)
theorem pw_28_16 {D : va_G} {ad : Nat → Nat → Nat} {ty : Nat → ClassId} {b b2 b3 : Nat} {μ : Mem} {H : Heap} (hP : va_P D vwCl (tp b2 (tcMod ad ty b2)) H) : va_at D vwCl (ad2 ad b b2 b3 28 16, cellK (kdL 2) (ad2 ad b b2 b3) ty (mu2 μ) 28 16) H := by
  have h := hP 28 _ (tp_get (k := 28) (show (tcMod ad ty b2)[28]? = some _ from rfl))
  exact at_arrI h (kk28 (vv := 2) (by decide)) rfl rfl (fun k hk => rfl)
theorem pw_29_0 {D : va_G} {ad : Nat → Nat → Nat} {ty : Nat → ClassId} {b b2 b3 : Nat} {μ : Mem} {H : Heap} (hP : va_P D vwCl (tp b2 (tcMod ad ty b2)) H) : va_at D vwCl (ad2 ad b b2 b3 29 0, cellK (kdL 2) (ad2 ad b b2 b3) ty (mu2 μ) 29 0) H := by
  have h := hP 8 _ (tp_get (k := 8) (show (tcMod ad ty b2)[8]? = some _ from rfl))
  exact at_arrI h (kk29 (vv := 2) (by decide)) rfl rfl (fun k _ => rfl)
theorem pw_30_0 {D : va_G} {ad : Nat → Nat → Nat} {ty : Nat → ClassId} {b b2 b3 : Nat} {μ : Mem} {H : Heap} (hP : va_P D vwCl (tp b2 (tcMod ad ty b2)) H) : va_at D vwCl (ad2 ad b b2 b3 30 0, cellK (kdL 2) (ad2 ad b b2 b3) ty (mu2 μ) 30 0) H := by
  have h := hP 15 _ (tp_get (k := 15) (show (tcMod ad ty b2)[15]? = some _ from rfl))
  exact at_arrQ h (kk30 (vv := 2) (by decide)) rfl rfl (fun k hk => if_pos hk)
theorem pw_30_1 {D : va_G} {ad : Nat → Nat → Nat} {ty : Nat → ClassId} {b b2 b3 : Nat} {μ : Mem} {H : Heap} (hP : va_P D vwCl (tp b2 (tcMod ad ty b2)) H) : va_at D vwCl (ad2 ad b b2 b3 30 1, cellK (kdL 2) (ad2 ad b b2 b3) ty (mu2 μ) 30 1) H := by
  have h := hP 16 _ (tp_get (k := 16) (show (tcMod ad ty b2)[16]? = some _ from rfl))
  exact at_arrQ h (kk30 (vv := 2) (by decide)) rfl rfl (fun k hk => if_pos hk)
theorem pw_30_2 {D : va_G} {ad : Nat → Nat → Nat} {ty : Nat → ClassId} {b b2 b3 : Nat} {μ : Mem} {H : Heap} (hP : va_P D vwCl (tp b2 (tcMod ad ty b2)) H) : va_at D vwCl (ad2 ad b b2 b3 30 2, cellK (kdL 2) (ad2 ad b b2 b3) ty (mu2 μ) 30 2) H := by
  have h := hP 17 _ (tp_get (k := 17) (show (tcMod ad ty b2)[17]? = some _ from rfl))
  exact at_arrQ h (kk30 (vv := 2) (by decide)) rfl rfl (fun k hk => if_pos hk)
theorem pw_30_3 {D : va_G} {ad : Nat → Nat → Nat} {ty : Nat → ClassId} {b b2 b3 : Nat} {μ : Mem} {H : Heap} (hP : va_P D vwCl (tp b2 (tcMod ad ty b2)) H) : va_at D vwCl (ad2 ad b b2 b3 30 3, cellK (kdL 2) (ad2 ad b b2 b3) ty (mu2 μ) 30 3) H := by
  have h := hP 18 _ (tp_get (k := 18) (show (tcMod ad ty b2)[18]? = some _ from rfl))
  exact at_arrQ h (kk30 (vv := 2) (by decide)) rfl rfl (fun k hk => if_pos hk)
theorem pw_30_4 {D : va_G} {ad : Nat → Nat → Nat} {ty : Nat → ClassId} {b b2 b3 : Nat} {μ : Mem} {H : Heap} (hP : va_P D vwCl (tp b2 (tcMod ad ty b2)) H) : va_at D vwCl (ad2 ad b b2 b3 30 4, cellK (kdL 2) (ad2 ad b b2 b3) ty (mu2 μ) 30 4) H := by
  have h := hP 25 _ (tp_get (k := 25) (show (tcMod ad ty b2)[25]? = some _ from rfl))
  exact at_arrQ h (kk30 (vv := 2) (by decide)) rfl rfl (fun k hk => if_pos hk)
theorem pw_26 {D : va_G} {ad : Nat → Nat → Nat} {ty : Nat → ClassId} {b b2 b3 : Nat} {μ : Mem} {H : Heap} (hP : va_P D vwCl (tp b2 (tcMod ad ty b2)) H) {n : Nat} (hn : n < 1) : va_at D vwCl (ad2 ad b b2 b3 26 n, cellK (kdL 2) (ad2 ad b b2 b3) ty (mu2 μ) 26 n) H :=
  match n, hn with
  | 0, _ => pw_26_0 hP
  | n + 1, h3 => absurd h3 (by omega)
theorem pw_27 {D : va_G} {ad : Nat → Nat → Nat} {ty : Nat → ClassId} {b b2 b3 : Nat} {μ : Mem} {H : Heap} (hP : va_P D vwCl (tp b2 (tcMod ad ty b2)) H) {n : Nat} (hn : n < 5) : va_at D vwCl (ad2 ad b b2 b3 27 n, cellK (kdL 2) (ad2 ad b b2 b3) ty (mu2 μ) 27 n) H :=
  match n, hn with
  | 0, _ => pw_27_0 hP
  | 1, _ => pw_27_1 hP
  | 2, _ => pw_27_2 hP
  | 3, _ => pw_27_3 hP
  | 4, _ => pw_27_4 hP
  | n + 5, h3 => absurd h3 (by omega)
theorem pw_28 {D : va_G} {ad : Nat → Nat → Nat} {ty : Nat → ClassId} {b b2 b3 : Nat} {μ : Mem} {H : Heap} (hP : va_P D vwCl (tp b2 (tcMod ad ty b2)) H) {n : Nat} (hn : n < 17) : va_at D vwCl (ad2 ad b b2 b3 28 n, cellK (kdL 2) (ad2 ad b b2 b3) ty (mu2 μ) 28 n) H :=
  match n, hn with
  | 0, _ => pw_28_0 hP
  | 1, _ => pw_28_1 hP
  | 2, _ => pw_28_2 hP
  | 3, _ => pw_28_3 hP
  | 4, _ => pw_28_4 hP
  | 5, _ => pw_28_5 hP
  | 6, _ => pw_28_6 hP
  | 7, _ => pw_28_7 hP
  | 8, _ => pw_28_8 hP
  | 9, _ => pw_28_9 hP
  | 10, _ => pw_28_10 hP
  | 11, _ => pw_28_11 hP
  | 12, _ => pw_28_12 hP
  | 13, _ => pw_28_13 hP
  | 14, _ => pw_28_14 hP
  | 15, _ => pw_28_15 hP
  | 16, _ => pw_28_16 hP
  | n + 17, h3 => absurd h3 (by omega)
theorem pw_29 {D : va_G} {ad : Nat → Nat → Nat} {ty : Nat → ClassId} {b b2 b3 : Nat} {μ : Mem} {H : Heap} (hP : va_P D vwCl (tp b2 (tcMod ad ty b2)) H) {n : Nat} (hn : n < 1) : va_at D vwCl (ad2 ad b b2 b3 29 n, cellK (kdL 2) (ad2 ad b b2 b3) ty (mu2 μ) 29 n) H :=
  match n, hn with
  | 0, _ => pw_29_0 hP
  | n + 1, h3 => absurd h3 (by omega)
theorem pw_30 {D : va_G} {ad : Nat → Nat → Nat} {ty : Nat → ClassId} {b b2 b3 : Nat} {μ : Mem} {H : Heap} (hP : va_P D vwCl (tp b2 (tcMod ad ty b2)) H) {n : Nat} (hn : n < 5) : va_at D vwCl (ad2 ad b b2 b3 30 n, cellK (kdL 2) (ad2 ad b b2 b3) ty (mu2 μ) 30 n) H :=
  match n, hn with
  | 0, _ => pw_30_0 hP
  | 1, _ => pw_30_1 hP
  | 2, _ => pw_30_2 hP
  | 3, _ => pw_30_3 hP
  | 4, _ => pw_30_4 hP
  | n + 5, h3 => absurd h3 (by omega)
theorem m_world {D : va_G} {ad : Nat → Nat → Nat} {ty : Nat → ClassId} {b b2 b3 : Nat} {μ : Mem} {H : Heap} (h0 : va_P D vwCl (wl 0 (adP ad b) ty μ) H) (h1 : va_P D vwCl (tp b2 (tcMod ad ty b2)) H) (h2 : va_at D vwCl (b3, .inl (ty 3, 1, .inr (.inl (fun _ => 0)))) H) : va_P D vwCl (wl 2 (ad2 ad b b2 b3) ty (mu2 μ)) H := by
  intro k q hq
  unfold wl wlK at hq
  rw [List.getElem?_map] at hq
  cases hc : (cellsOf (kdL 2))[k]? with
  | none => rw [hc] at hq; cases hq
  | some z =>
    rw [hc] at hq
    cases hq
    obtain ⟨κ, n⟩ := z
    obtain ⟨g1, g2⟩ := cells_lt (List.mem_of_getElem? hc)
    have g1 : κ < 34 := g1
    by_cases hC : isC κ = true
    · show va_at D vwCl (ad2 ad b b2 b3 κ n, cellK (kdL 2) (ad2 ad b b2 b3) ty (mu2 μ) κ n) H
      rw [cell_C g1 hC, ← ad2_P (Or.inl hC)]
      have e : (kdL 0).getD κ (0, .inl (0, [])) = (kdL 2).getD κ (0, .inl (0, [])) := by rw [List.getD_eq_getElem?_getD, List.getD_eq_getElem?_getD, kdL_C κ g1 hC]
      have hm : (κ, n) ∈ cellsOf (kdL 0) := by
        unfold cellsOf
        exact List.mem_flatMap.mpr ⟨κ, List.mem_range.mpr g1, List.mem_map.mpr ⟨n, List.mem_range.mpr (by rw [e]; exact g2), rfl⟩⟩
      obtain ⟨j, hj⟩ := List.getElem?_of_mem hm
      exact h0 j _ (wl_at hj)
    · match κ, hC, g2 with
      | 26, _, h2 => exact pw_26 h1 h2
      | 27, _, h2 => exact pw_27 h1 h2
      | 28, _, h2 => exact pw_28 h1 h2
      | 29, _, h2 => exact pw_29 h1 h2
      | 30, _, h2 => exact pw_30 h1 h2
      | 31, _, h2' => have h2' : n < 1 := h2'
                      obtain rfl : n = 0 := by omega
                      exact h2
      | 0, hC, _ => exact absurd rfl hC
      | 1, hC, _ => exact absurd rfl hC
      | 2, hC, _ => exact absurd rfl hC
      | 3, hC, _ => exact absurd rfl hC
      | 4, hC, _ => exact absurd rfl hC
      | 5, hC, _ => exact absurd rfl hC
      | 6, hC, _ => exact absurd rfl hC
      | 7, hC, _ => exact absurd rfl hC
      | 8, hC, _ => exact absurd rfl hC
      | 9, hC, _ => exact absurd rfl hC
      | 10, hC, _ => exact absurd rfl hC
      | 11, hC, _ => exact absurd rfl hC
      | 12, hC, _ => exact absurd rfl hC
      | 13, hC, _ => exact absurd rfl hC
      | 14, hC, _ => exact absurd rfl hC
      | 15, hC, _ => exact absurd rfl hC
      | 16, hC, _ => exact absurd rfl hC
      | 17, hC, _ => exact absurd rfl hC
      | 18, hC, _ => exact absurd rfl hC
      | 19, hC, _ => exact absurd rfl hC
      | 20, hC, _ => exact absurd rfl hC
      | 21, hC, _ => exact absurd rfl hC
      | 22, hC, _ => exact absurd rfl hC
      | 23, hC, _ => exact absurd rfl hC
      | 24, hC, _ => exact absurd rfl hC
      | 25, hC, _ => exact absurd rfl hC
      | 32, hC, _ => exact absurd rfl hC
      | 33, hC, _ => exact absurd rfl hC
      | κ + 34, _, _ => exact absurd g1 (by omega)
def off2 (q : Nat × Nat) : Nat := if isC q.1 then offC q.1 q.2 else if isM q.1 then 500 + offM q.1 q.2 else 529
set_option maxRecDepth 100000 in
theorem off2_nodup : ((cellsOf (kdL 2)).map off2).Nodup := by decide +kernel
set_option maxRecDepth 100000 in
theorem off2_lt : ∀ q ∈ cellsOf (kdL 2), off2 q < 530 := by decide +kernel
set_option maxRecDepth 100000 in
theorem off2_is : ∀ q ∈ cellsOf (kdL 2), (isC q.1 = true ∧ offC q.1 q.2 < 500) ∨ (isC q.1 = false ∧ isM q.1 = true ∧ offM q.1 q.2 < 29) ∨ (isC q.1 = false ∧ isM q.1 = false ∧ q.1 = 31) := by decide +kernel
def phi (b b2 b3 x : Nat) : Nat := if x < 500 then b + x else if x < 529 then b2 + (x - 500) else b3
theorem w2_apart {ad : Nat → Nat → Nat} {ty : Nat → ClassId} {μ : Mem} {A : Nat → Prop} {b b2 b3 : Nat} (h1 : b + 500 ≤ b2) (h2 : b2 + 29 ≤ b3) (hA : ∀ q, b ≤ q → A q) : va_D A (wl 2 (ad2 ad b b2 b3) ty μ) := by
  have ha : ∀ q ∈ cellsOf (kdL 2), ad2 ad b b2 b3 q.1 q.2 = phi b b2 b3 (off2 q) := by
    intro q hq
    rcases off2_is q hq with ⟨e1, e2⟩ | ⟨e1, e2, e3⟩ | ⟨e1, e2, e3⟩
    · have o1 : off2 q = offC q.1 q.2 := if_pos e1
      rw [o1]
      show (if isC q.1 then b + offC q.1 q.2 else _) = if offC q.1 q.2 < 500 then _ else _
      rw [if_pos e1, if_pos e2]
    · have f1 : ¬ isC q.1 = true := by rw [e1]; decide
      have o1 : off2 q = 500 + offM q.1 q.2 := by unfold off2; rw [if_neg f1, if_pos e2]
      rw [o1]
      unfold ad2 phi
      rw [if_neg f1, if_pos e2, if_neg (by omega), if_pos (by omega), Nat.add_sub_cancel_left]
    · have f1 : ¬ isC q.1 = true := by rw [e1]; decide
      have f2 : ¬ isM q.1 = true := by rw [e2]; decide
      have o1 : off2 q = 529 := by unfold off2; rw [if_neg f1, if_neg f2]
      rw [o1]
      unfold ad2 phi
      rw [if_neg f1, if_neg f2, if_pos e3, if_neg (by decide), if_neg (by decide)]
  refine wl_apart (N := 530) (phi b b2 b3) off2 (fun x y hx hy h => ?_) off2_nodup off2_lt ha (fun q hq => ?_)
  · unfold phi at h
    by_cases x1 : x < 500
    · rw [if_pos x1] at h
      by_cases y1 : y < 500
      · rw [if_pos y1] at h; omega
      · rw [if_neg y1] at h
        by_cases y2 : y < 529
        · rw [if_pos y2] at h; omega
        · rw [if_neg y2] at h; omega
    · rw [if_neg x1] at h
      by_cases x2 : x < 529
      · rw [if_pos x2] at h
        by_cases y1 : y < 500
        · rw [if_pos y1] at h; omega
        · rw [if_neg y1] at h
          by_cases y2 : y < 529
          · rw [if_pos y2] at h; omega
          · rw [if_neg y2] at h; omega
      · rw [if_neg x2] at h
        by_cases y1 : y < 500
        · rw [if_pos y1] at h; omega
        · rw [if_neg y1] at h
          by_cases y2 : y < 529
          · rw [if_pos y2] at h; omega
          · omega
  · rw [ha q hq]
    refine hA _ ?_
    unfold phi
    split
    · omega
    · split <;> omega
