/-! a constant of the enum is put into a row of such -/
theorem arr_setR {kinds : List KD} {ad : Nat → Nat → Nat} {ty : Nat → ClassId} {μ : Mem} (hnd : (cellsOf kinds).Nodup) {κ n q0 cnt t k κ' v : Nat} {len : (Nat → Nat) → Nat → Nat} (hlen : ∀ b b' : Nat → Nat, len b n = len b' n) (h : kinds[κ]? = some (cnt, .inr (t, len, some (some (κ', none))))) (hq : (cellsOf kinds)[q0]? = some (κ, n)) :
    (wlK kinds ad ty μ).set q0 (ad κ n, .inl (ty t, len (μ.2.1 κ n) n, .inr (.inr (.inr (.inr (va_up (fun k => some (ad κ' (μ.2.1 κ n k))) k (some (ad κ' v)))))))) = wlK kinds ad ty (wR μ κ n k v) := by
  rw [← wl_set (μ := μ) hnd (μ' := wR μ κ n k v) hq (fun a b hab => ⟨rfl, up3_ne hab, rfl⟩)]
  congr 2
  rw [cellK, kd_getD h]
  show _ = Sum.inl (ty t, len (up3 μ.2.1 κ n k v κ n) n, Sum.inr (Sum.inr (Sum.inr (Sum.inr (fun j => some (ad κ' (up3 μ.2.1 κ n k v κ n j)))))))
  rw [hlen (up3 μ.2.1 κ n k v κ n) (μ.2.1 κ n), up3_eq]
  congr 7
  funext j
  unfold va_up
  by_cases hj : j = k
  · rw [if_pos hj]; dsimp only; rw [if_pos hj]
  · rw [if_neg hj]; dsimp only; rw [if_neg hj]
section SymSt
variable {X : CX} {own : String} {cc : ByteArray} {α : Type} {r0 : α} {ca sl : Nat} {μ : Mem} {pc : Nat} {L L' : List (Nat × Value)} {st : List Value} {o : Option α}
theorem s_symst (C : Ok X own cc) {n v : Nat} {i : Int32} (F : AG (xv X) 3 1 8 (fun _ _ => 1001) (some (some (50, none)))) (hn : n < 1) (hv : v < 74) (hd : decode cc pc = .ok (.aastore, 1)) (kk : G X r0 ca sl (wR μ 3 n i.toNatClampNeg v) (pc + 1) L st o) : G X r0 ca sl μ pc L (.ref (xa X 50 v) :: .int i :: .ref (xa X 3 n) :: st) (ckI i 1001 o) := by
  obtain ⟨p, l, e, R, s, m, args, below, meth, c, D, ad, ty, A, Q, nL, vv⟩ := X
  obtain ⟨hx, hb, hml, hown, hts, hK, hD, hA, hlk, hZ⟩ := C
  intro h H locs ls hP hS hl
  unfold ckI at h
  split at h
  case isFalse => cases h
  rename_i hi
  have F' := F
  unfold AG at F'
  dsimp only [xv] at F'
  obtain ⟨q0, hq⟩ := cell_at F' hn
  exact vb_astq (E := "PinEngines$Symbol") (C := "PinEngines$Symbol") hx hb hK hP (hD μ) hS q0 8 (arr_at F' hq) rfl (va_recvE hZ.1 hv hS) (fun comp c0 h1 h2 => by rw [h1] at h2; cases h2; exact va_asg _ _) hi hd (fun H1 locs1 hP1 hD1 hS1 => kk h H1 locs1 ls (Eq.mp (congrArg (fun w => va_P D vwCl w H1) (arr_setR (ad := ad) (ty := ty) (μ := μ) (v := v) (kd_nodup vv) (fun _ _ => rfl) F' hq)) hP1) hS1 hl)
end SymSt
