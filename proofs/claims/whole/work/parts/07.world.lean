/-! THE WORLD: every cell of the class and of the reference, by kind and index, at addresses that are variables; what they hold is ONE memory -/
/-- the memory: numbers, references (by index), longs; by kind, index, place -/
abbrev Mem : Type := (Nat → Nat → Nat → Int32) × (Nat → Nat → Nat → Nat) × (Nat → Nat → Nat → Int64)
def up3 {α : Type} (f : Nat → Nat → Nat → α) (κ n k : Nat) (v : α) : Nat → Nat → Nat → α := fun a b c => if a = κ ∧ b = n ∧ c = k then v else f a b c
def wI (μ : Mem) (κ n k : Nat) (v : Int32) : Mem := (up3 μ.1 κ n k v, μ.2.1, μ.2.2)
def wR (μ : Mem) (κ n k : Nat) (v : Nat) : Mem := (μ.1, up3 μ.2.1 κ n k v, μ.2.2)
def wJ (μ : Mem) (κ n k : Nat) (v : Int64) : Mem := (μ.1, μ.2.1, up3 μ.2.2 κ n k v)
theorem up3_ne {α : Type} {f : Nat → Nat → Nat → α} {κ n k : Nat} {v : α} {a b : Nat} (h : ¬ (a = κ ∧ b = n)) : up3 f κ n k v a b = f a b := by
  funext c
  unfold up3
  rw [if_neg (fun q => h ⟨q.1, q.2.1⟩)]
theorem up3_eq {α : Type} {f : Nat → Nat → Nat → α} {κ n k : Nat} {v : α} : up3 f κ n k v κ n = fun c => if c = k then v else f κ n c := by
  funext c
  unfold up3
  by_cases h : c = k
  · rw [if_pos ⟨rfl, rfl, h⟩, if_pos h]
  · rw [if_neg (fun q => h q.2.2), if_neg h]
/-- a place of an object: none: a number; some (κ, none): a reference that moves; some (κ, some g): a reference that stays -/
abbrev SP : Type := Option (Nat × Option (Nat → Nat))
/-- what an array holds: numbers, longs, references that move, references that stay -/
abbrev EL : Type := Option (Option (Nat × Option (Nat → Nat → Nat)))
/-- a kind: how many; an object (its place in vwCl, its places) or an array (its type's place, its length, what it holds) -/
abbrev KD : Type := Nat × ((Nat × List SP) ⊕ (Nat × ((Nat → Nat) → Nat → Nat) × EL))
def sv (ad : Nat → Nat → Nat) (n : Nat) (a : Nat → Int32) (b : Nat → Nat) (k : Nat) : SP → Value
  | none => .int (a k)
  | some (κ, none) => .ref (ad κ (b k))
  | some (κ, some g) => .ref (ad κ (g n))
def ev (ad : Nat → Nat → Nat) (n : Nat) (a : Nat → Int32) (b : Nat → Nat) (c : Nat → Int64) : EL → (Nat → Int32) ⊕ (Nat → Int64) ⊕ (Nat → UInt32) ⊕ (Nat → UInt64) ⊕ (Nat → Option Nat)
  | none => .inl a
  | some none => .inr (.inl c)
  | some (some (κ, none)) => .inr (.inr (.inr (.inr (fun k => some (ad κ (b k))))))
  | some (some (κ, some g)) => .inr (.inr (.inr (.inr (fun k => some (ad κ (g n k))))))
def cellD (ad : Nat → Nat → Nat) (ty : Nat → ClassId) (n : Nat) (a : Nat → Int32) (b : Nat → Nat) (c : Nat → Int64) (d : KD) : va_E := match d.2 with
  | .inl (ci, sl) => .inr (ci, sl.mapIdx (fun k sp => sv ad n a b k sp))
  | .inr (t, len, el) => .inl (ty t, len b n, ev ad n a b c el)
section Kinds
variable {kinds : List KD} {ad : Nat → Nat → Nat} {ty : Nat → ClassId} {μ : Mem} {A : Nat → Prop} {D : va_G} {H : Heap}
def cellK (kinds : List KD) (ad : Nat → Nat → Nat) (ty : Nat → ClassId) (μ : Mem) (κ n : Nat) : va_E := cellD ad ty n (μ.1 κ n) (μ.2.1 κ n) (μ.2.2 κ n) (kinds.getD κ (0, .inl (0, [])))
def cellsOf (kinds : List KD) : List (Nat × Nat) := (List.range kinds.length).flatMap (fun κ => (List.range (kinds.getD κ (0, .inl (0, []))).1).map (fun n => (κ, n)))
def wlK (kinds : List KD) (ad : Nat → Nat → Nat) (ty : Nat → ClassId) (μ : Mem) : va_W := (cellsOf kinds).map (fun q => (ad q.1 q.2, cellK kinds ad ty μ q.1 q.2))
theorem kd_getD {κ : Nat} {d : KD} (h : kinds[κ]? = some d) : kinds.getD κ (0, .inl (0, [])) = d := by rw [List.getD_eq_getElem?_getD, h]; rfl
theorem mem_cellsOf {κ n : Nat} {d : KD} (h : kinds[κ]? = some d) (hn : n < d.1) : (κ, n) ∈ cellsOf kinds := by
  unfold cellsOf
  refine List.mem_flatMap.mpr ⟨κ, List.mem_range.mpr (List.getElem?_eq_some_iff.mp h).1, List.mem_map.mpr ⟨n, List.mem_range.mpr ?_, rfl⟩⟩
  rw [kd_getD h]; exact hn
theorem cell_at {κ n : Nat} {d : KD} (h : kinds[κ]? = some d) (hn : n < d.1) : ∃ q0 : Nat, (cellsOf kinds)[q0]? = some (κ, n) := List.getElem?_of_mem (mem_cellsOf h hn)
theorem wl_at {κ n q0 : Nat} (h : (cellsOf kinds)[q0]? = some (κ, n)) : (wlK kinds ad ty μ)[q0]? = some (ad κ n, cellK kinds ad ty μ κ n) := by
  unfold wlK
  rw [List.getElem?_map, h]; rfl
theorem wl_fst (μ' : Mem) (hD : va_D A (wlK kinds ad ty μ)) : va_D A (wlK kinds ad ty μ') := by
  have key : ∀ (i : Nat) (p : Nat × va_E), (wlK kinds ad ty μ')[i]? = some p → ∃ p0 : Nat × va_E, (wlK kinds ad ty μ)[i]? = some p0 ∧ p0.1 = p.1 := by
    intro i p h
    unfold wlK at h ⊢
    rw [List.getElem?_map] at h ⊢
    cases hc : (cellsOf kinds)[i]? with
    | none => rw [hc] at h; cases h
    | some q => rw [hc] at h; cases h; exact ⟨_, rfl, rfl⟩
  refine ⟨fun i j p q h1 h2 he => ?_, fun k q h => ?_⟩
  · obtain ⟨p0, e1, e2⟩ := key i p h1
    obtain ⟨q0, e3, e4⟩ := key j q h2
    exact hD.1 i j p0 q0 e1 e3 (by rw [e2, e4]; exact he)
  · obtain ⟨p0, e1, e2⟩ := key k q h
    rw [← e2]; exact hD.2 k p0 e1
theorem wl_set (hnd : (cellsOf kinds).Nodup) {κ n q0 : Nat} {μ' : Mem} (hq : (cellsOf kinds)[q0]? = some (κ, n)) (ho : ∀ a b : Nat, ¬ (a = κ ∧ b = n) → μ'.1 a b = μ.1 a b ∧ μ'.2.1 a b = μ.2.1 a b ∧ μ'.2.2 a b = μ.2.2 a b) :
    (wlK kinds ad ty μ).set q0 (ad κ n, cellK kinds ad ty μ' κ n) = wlK kinds ad ty μ' := by
  refine List.ext_getElem? fun i => ?_
  by_cases hi : i = q0
  · subst hi
    have hlt : i < (wlK kinds ad ty μ).length := (List.getElem?_eq_some_iff.mp (wl_at (ad := ad) (ty := ty) (μ := μ) hq)).1
    rw [List.getElem?_set_self hlt, wl_at hq]
  · rw [List.getElem?_set_ne (fun e => hi e.symm)]
    unfold wlK
    rw [List.getElem?_map, List.getElem?_map]
    cases hc : (cellsOf kinds)[i]? with
    | none => rfl
    | some q =>
      obtain ⟨a, b⟩ := q
      have hne : ¬ (a = κ ∧ b = n) := by
        rintro ⟨rfl, rfl⟩
        exact hi ((List.getElem?_inj (List.getElem?_eq_some_iff.mp hc).1 hnd).mp (hc.trans hq.symm))
      obtain ⟨e1, e2, e3⟩ := ho a b hne
      simp only [Option.map_some, cellK, e1, e2, e3]
theorem obj_at {κ n q0 cnt ci : Nat} {sl : List SP} (h : kinds[κ]? = some (cnt, .inl (ci, sl))) (hq : (cellsOf kinds)[q0]? = some (κ, n)) : (wlK kinds ad ty μ)[q0]? = some (ad κ n, .inr (ci, sl.mapIdx (fun k sp => sv ad n (μ.1 κ n) (μ.2.1 κ n) k sp))) := by
  rw [wl_at hq, cellK, kd_getD h]; rfl
theorem arr_at {κ n q0 cnt t : Nat} {len : (Nat → Nat) → Nat → Nat} {el : EL} (h : kinds[κ]? = some (cnt, .inr (t, len, el))) (hq : (cellsOf kinds)[q0]? = some (κ, n)) : (wlK kinds ad ty μ)[q0]? = some (ad κ n, .inl (ty t, len (μ.2.1 κ n) n, ev ad n (μ.1 κ n) (μ.2.1 κ n) (μ.2.2 κ n) el)) := by
  rw [wl_at hq, cellK, kd_getD h]; rfl
theorem obj_setI (hnd : (cellsOf kinds).Nodup) {κ n q0 cnt ci k : Nat} {sl : List SP} {v : Int32} (h : kinds[κ]? = some (cnt, .inl (ci, sl))) (hq : (cellsOf kinds)[q0]? = some (κ, n)) (hk : sl[k]? = some none) :
    (wlK kinds ad ty μ).set q0 (ad κ n, .inr (ci, (sl.mapIdx (fun k sp => sv ad n (μ.1 κ n) (μ.2.1 κ n) k sp)).set k (.int v))) = wlK kinds ad ty (wI μ κ n k v) := by
  rw [← wl_set (μ := μ) hnd (μ' := wI μ κ n k v) hq (fun a b hab => ⟨up3_ne hab, rfl, rfl⟩)]
  congr 2
  rw [cellK, kd_getD h]
  show _ = Sum.inr (ci, sl.mapIdx (fun j sp => sv ad n ((wI μ κ n k v).1 κ n) (μ.2.1 κ n) j sp))
  congr 2
  refine List.ext_getElem? fun i => ?_
  rw [List.getElem?_set, List.getElem?_mapIdx, List.getElem?_mapIdx, List.length_mapIdx]
  show _ = Option.map (fun sp => sv ad n (up3 μ.1 κ n k v κ n) (μ.2.1 κ n) i sp) sl[i]?
  rw [up3_eq]
  by_cases hi : k = i
  · subst hi
    rw [if_pos rfl, if_pos (List.getElem?_eq_some_iff.mp hk).1, hk]
    simp [sv]
  · rw [if_neg hi]
    cases hs : sl[i]? with
    | none => rfl
    | some sp =>
      simp only [Option.map_some]
      congr 1
      match sp with
      | none => simp only [sv]; rw [if_neg (fun e => hi e.symm)]
      | some (κ', none) => rfl
      | some (κ', some g) => rfl
theorem obj_setR (hnd : (cellsOf kinds).Nodup) {κ n q0 cnt ci k κ' : Nat} {sl : List SP} {v : Nat} (h : kinds[κ]? = some (cnt, .inl (ci, sl))) (hq : (cellsOf kinds)[q0]? = some (κ, n)) (hk : sl[k]? = some (some (κ', none))) :
    (wlK kinds ad ty μ).set q0 (ad κ n, .inr (ci, (sl.mapIdx (fun k sp => sv ad n (μ.1 κ n) (μ.2.1 κ n) k sp)).set k (.ref (ad κ' v)))) = wlK kinds ad ty (wR μ κ n k v) := by
  rw [← wl_set (μ := μ) hnd (μ' := wR μ κ n k v) hq (fun a b hab => ⟨rfl, up3_ne hab, rfl⟩)]
  congr 2
  rw [cellK, kd_getD h]
  show _ = Sum.inr (ci, sl.mapIdx (fun j sp => sv ad n (μ.1 κ n) ((wR μ κ n k v).2.1 κ n) j sp))
  congr 2
  refine List.ext_getElem? fun i => ?_
  rw [List.getElem?_set, List.getElem?_mapIdx, List.getElem?_mapIdx, List.length_mapIdx]
  show _ = Option.map (fun sp => sv ad n (μ.1 κ n) (up3 μ.2.1 κ n k v κ n) i sp) sl[i]?
  rw [up3_eq]
  by_cases hi : k = i
  · subst hi
    rw [if_pos rfl, if_pos (List.getElem?_eq_some_iff.mp hk).1, hk]
    simp [sv]
  · rw [if_neg hi]
    cases hs : sl[i]? with
    | none => rfl
    | some sp =>
      simp only [Option.map_some]
      congr 1
      match sp with
      | none => rfl
      | some (κ', none) => simp only [sv]; rw [if_neg (fun e => hi e.symm)]
      | some (κ', some g) => rfl
theorem arr_setI (hnd : (cellsOf kinds).Nodup) {κ n q0 cnt t k : Nat} {len : (Nat → Nat) → Nat → Nat} {v : Int32} (h : kinds[κ]? = some (cnt, .inr (t, len, none))) (hq : (cellsOf kinds)[q0]? = some (κ, n)) :
    (wlK kinds ad ty μ).set q0 (ad κ n, .inl (ty t, len (μ.2.1 κ n) n, .inl (upd (μ.1 κ n) k v))) = wlK kinds ad ty (wI μ κ n k v) := by
  rw [← wl_set (μ := μ) hnd (μ' := wI μ κ n k v) hq (fun a b hab => ⟨up3_ne hab, rfl, rfl⟩)]
  congr 2
  rw [cellK, kd_getD h]
  show _ = Sum.inl (ty t, len (μ.2.1 κ n) n, Sum.inl (up3 μ.1 κ n k v κ n))
  rw [up3_eq]
  rfl
theorem arr_setJ (hnd : (cellsOf kinds).Nodup) {κ n q0 cnt t k : Nat} {len : (Nat → Nat) → Nat → Nat} {v : Int64} (h : kinds[κ]? = some (cnt, .inr (t, len, some none))) (hq : (cellsOf kinds)[q0]? = some (κ, n)) :
    (wlK kinds ad ty μ).set q0 (ad κ n, .inl (ty t, len (μ.2.1 κ n) n, .inr (.inl (vp_updL (μ.2.2 κ n) k v)))) = wlK kinds ad ty (wJ μ κ n k v) := by
  rw [← wl_set (μ := μ) hnd (μ' := wJ μ κ n k v) hq (fun a b hab => ⟨rfl, rfl, up3_ne hab⟩)]
  congr 2
  rw [cellK, kd_getD h]
  show _ = Sum.inl (ty t, len (μ.2.1 κ n) n, Sum.inr (Sum.inl (up3 μ.2.2 κ n k v κ n)))
  rw [up3_eq]
  rfl
end Kinds
