/-! THE BUILDER: small words -/
noncomputable def grd {α : Type} (c : Prop) (o : Option α) : Option α := @ite _ c (Classical.propDecidable c) o none
theorem grd_ok {α : Type} {c : Prop} {o : Option α} (h : c) : grd c o = o := if_pos h
theorem grd_inv {α : Type} {c : Prop} {o : Option α} {r : α} (h : grd c o = some r) : c ∧ o = some r := by
  unfold grd at h
  split at h
  · rename_i h1; exact ⟨h1, h⟩
  · cases h
theorem ckI_of {α : Type} {i : Int32} {n : Nat} {o : Option α} (h : vp_in i n) : ckI i n o = o := if_pos h
theorem b_call {X : CX} {α β : Type} {r0 : α} {o : Option α} {ca sl : Nat} {μ : Mem} {pc : Nat} {L : List (Nat × Value)} {stk : List Value} {f : Option (β × Mem)} {r : β} {μ' : Mem} (hf : f = some (r, μ')) (h : G X r0 ca sl μ pc L stk (bnd f (fun r2 μ2 => grd ((r2, μ2) = (r, μ')) o))) : G X r0 ca sl μ pc L stk o :=
  g_eqo (by rw [hf]; exact (grd_ok (c := (r, μ') = (r, μ')) rfl).symm) h
section Units
variable {X : CX} {own : String} {cc : ByteArray} {α : Type} {r0 : α} {o : Option α} {fr lo ca sl fr1 lo1 mcX msX mc ms : Nat} {μ μ' : Mem} {pc : Nat} {L : List (Nat × Value)} {st stk As : List Value}
theorem j_gr (h : G X r0 ca sl μ pc L st (some r0)) : J X ca sl μ pc L st := h rfl
theorem g_gr (h : G X r0 ca sl μ pc L st (some r0)) (o : Option α) : G X r0 ca sl μ pc L st o := fun _ => h rfl
theorem b_if_eq (C : Ok X own cc) {x : Int32} {off : Int} {tgt : Nat} (hd : decode cc pc = .ok (.ifCond .eq off, 3)) (ht : (pc : Int) + off = (tgt : Int)) (k1 : x = 0 → G X r0 ca sl μ tgt L st o) (k2 : ¬ (x = 0) → G X r0 ca sl μ (pc + 3) L st o) : G X r0 ca sl μ pc L (.int x :: st) o :=
  g_eqo (o' := if x = 0 then o else o) (by split <;> rfl) (s_if_eq C hd ht k1 k2)
theorem b_icmp_eq (C : Ok X own cc) {x y : Int32} {off : Int} {tgt : Nat} (hd : decode cc pc = .ok (.if_icmp .eq off, 3)) (ht : (pc : Int) + off = (tgt : Int)) (k1 : x = y → G X r0 ca sl μ tgt L st o) (k2 : ¬ (x = y) → G X r0 ca sl μ (pc + 3) L st o) : G X r0 ca sl μ pc L (.int y :: .int x :: st) o :=
  g_eqo (o' := if x = y then o else o) (by split <;> rfl) (s_icmp_eq C hd ht k1 k2)
theorem b_if_ne (C : Ok X own cc) {x : Int32} {off : Int} {tgt : Nat} (hd : decode cc pc = .ok (.ifCond .ne off, 3)) (ht : (pc : Int) + off = (tgt : Int)) (k1 : ¬ x = 0 → G X r0 ca sl μ tgt L st o) (k2 : ¬ (¬ x = 0) → G X r0 ca sl μ (pc + 3) L st o) : G X r0 ca sl μ pc L (.int x :: st) o :=
  g_eqo (o' := if ¬ x = 0 then o else o) (by split <;> rfl) (s_if_ne C hd ht k1 k2)
theorem b_icmp_ne (C : Ok X own cc) {x y : Int32} {off : Int} {tgt : Nat} (hd : decode cc pc = .ok (.if_icmp .ne off, 3)) (ht : (pc : Int) + off = (tgt : Int)) (k1 : ¬ x = y → G X r0 ca sl μ tgt L st o) (k2 : ¬ (¬ x = y) → G X r0 ca sl μ (pc + 3) L st o) : G X r0 ca sl μ pc L (.int y :: .int x :: st) o :=
  g_eqo (o' := if ¬ x = y then o else o) (by split <;> rfl) (s_icmp_ne C hd ht k1 k2)
theorem b_if_lt (C : Ok X own cc) {x : Int32} {off : Int} {tgt : Nat} (hd : decode cc pc = .ok (.ifCond .lt off, 3)) (ht : (pc : Int) + off = (tgt : Int)) (k1 : x < 0 → G X r0 ca sl μ tgt L st o) (k2 : ¬ (x < 0) → G X r0 ca sl μ (pc + 3) L st o) : G X r0 ca sl μ pc L (.int x :: st) o :=
  g_eqo (o' := if x < 0 then o else o) (by split <;> rfl) (s_if_lt C hd ht k1 k2)
theorem b_icmp_lt (C : Ok X own cc) {x y : Int32} {off : Int} {tgt : Nat} (hd : decode cc pc = .ok (.if_icmp .lt off, 3)) (ht : (pc : Int) + off = (tgt : Int)) (k1 : x < y → G X r0 ca sl μ tgt L st o) (k2 : ¬ (x < y) → G X r0 ca sl μ (pc + 3) L st o) : G X r0 ca sl μ pc L (.int y :: .int x :: st) o :=
  g_eqo (o' := if x < y then o else o) (by split <;> rfl) (s_icmp_lt C hd ht k1 k2)
theorem b_if_ge (C : Ok X own cc) {x : Int32} {off : Int} {tgt : Nat} (hd : decode cc pc = .ok (.ifCond .ge off, 3)) (ht : (pc : Int) + off = (tgt : Int)) (k1 : 0 ≤ x → G X r0 ca sl μ tgt L st o) (k2 : ¬ (0 ≤ x) → G X r0 ca sl μ (pc + 3) L st o) : G X r0 ca sl μ pc L (.int x :: st) o :=
  g_eqo (o' := if 0 ≤ x then o else o) (by split <;> rfl) (s_if_ge C hd ht k1 k2)
theorem b_icmp_ge (C : Ok X own cc) {x y : Int32} {off : Int} {tgt : Nat} (hd : decode cc pc = .ok (.if_icmp .ge off, 3)) (ht : (pc : Int) + off = (tgt : Int)) (k1 : y ≤ x → G X r0 ca sl μ tgt L st o) (k2 : ¬ (y ≤ x) → G X r0 ca sl μ (pc + 3) L st o) : G X r0 ca sl μ pc L (.int y :: .int x :: st) o :=
  g_eqo (o' := if y ≤ x then o else o) (by split <;> rfl) (s_icmp_ge C hd ht k1 k2)
theorem b_if_gt (C : Ok X own cc) {x : Int32} {off : Int} {tgt : Nat} (hd : decode cc pc = .ok (.ifCond .gt off, 3)) (ht : (pc : Int) + off = (tgt : Int)) (k1 : 0 < x → G X r0 ca sl μ tgt L st o) (k2 : ¬ (0 < x) → G X r0 ca sl μ (pc + 3) L st o) : G X r0 ca sl μ pc L (.int x :: st) o :=
  g_eqo (o' := if 0 < x then o else o) (by split <;> rfl) (s_if_gt C hd ht k1 k2)
theorem b_icmp_gt (C : Ok X own cc) {x y : Int32} {off : Int} {tgt : Nat} (hd : decode cc pc = .ok (.if_icmp .gt off, 3)) (ht : (pc : Int) + off = (tgt : Int)) (k1 : y < x → G X r0 ca sl μ tgt L st o) (k2 : ¬ (y < x) → G X r0 ca sl μ (pc + 3) L st o) : G X r0 ca sl μ pc L (.int y :: .int x :: st) o :=
  g_eqo (o' := if y < x then o else o) (by split <;> rfl) (s_icmp_gt C hd ht k1 k2)
theorem b_if_le (C : Ok X own cc) {x : Int32} {off : Int} {tgt : Nat} (hd : decode cc pc = .ok (.ifCond .le off, 3)) (ht : (pc : Int) + off = (tgt : Int)) (k1 : x ≤ 0 → G X r0 ca sl μ tgt L st o) (k2 : ¬ (x ≤ 0) → G X r0 ca sl μ (pc + 3) L st o) : G X r0 ca sl μ pc L (.int x :: st) o :=
  g_eqo (o' := if x ≤ 0 then o else o) (by split <;> rfl) (s_if_le C hd ht k1 k2)
theorem b_icmp_le (C : Ok X own cc) {x y : Int32} {off : Int} {tgt : Nat} (hd : decode cc pc = .ok (.if_icmp .le off, 3)) (ht : (pc : Int) + off = (tgt : Int)) (k1 : x ≤ y → G X r0 ca sl μ tgt L st o) (k2 : ¬ (x ≤ y) → G X r0 ca sl μ (pc + 3) L st o) : G X r0 ca sl μ pc L (.int y :: .int x :: st) o :=
  g_eqo (o' := if x ≤ y then o else o) (by split <;> rfl) (s_icmp_le C hd ht k1 k2)
theorem b_bald (C : Ok X own cc) {n : Nat} {i : Int32} (hn : n < 1) (hi : vp_in i (μ.2.1 33 n 0)) (hd : decode cc pc = .ok (.baload, 1)) (kk : G X r0 ca sl μ (pc + 1) L (.int (μ.1 33 n i.toNatClampNeg) :: st) o) : G X r0 ca sl μ pc L (.int i :: .ref (xa X 33 n) :: st) o :=
  g_eqo (ckI_of hi).symm (s_bald (len := fun b _ => b 0) C (kk33 _) hn hd kk)
theorem b_bast (C : Ok X own cc) {n : Nat} {i v : Int32} (hn : n < 1) (hi : vp_in i (μ.2.1 33 n 0)) (hd : decode cc pc = .ok (.bastore, 1)) (kk : G X r0 ca sl (wI μ 33 n i.toNatClampNeg (vp_nar .byte v)) (pc + 1) L st o) : G X r0 ca sl μ pc L (.int v :: .int i :: .ref (xa X 33 n) :: st) o :=
  g_eqo (ckI_of hi).symm (s_bast (len := fun b _ => b 0) C (kk33 _) hn hd kk)
theorem b_alen (C : Ok X own cc) {n : Nat} (hn : n < 1) (hd : decode cc pc = .ok (.arraylength, 1)) (kk : G X r0 ca sl μ (pc + 1) L (.int (Int32.ofNat (μ.2.1 33 n 0)) :: st) o) : G X r0 ca sl μ pc L (.ref (xa X 33 n) :: st) o :=
  s_alen (len := fun b _ => b 0) (t := 1) C (kk33 _) (fun _ => rfl) hn hd kk
theorem s_dig (C : Ok X own cc) {ix k κ : Nat} {nmS : String} (hκ : (κ = 56 ∧ nmS = "DigitOnes") ∨ (κ = 57 ∧ nmS = "DigitTens")) (hw : Cond.fieldLink own ix "java/lang/Integer" nmS "[B" ∈ tb) (hd : decode cc pc = .ok (.getstatic ix, 3)) (k : G X r0 ca sl μ (pc + 3) L (.ref (xa X κ 0) :: st) o) : G X r0 ca sl μ pc L st o := by
  obtain ⟨p, l, e, R, s, m, args, below, meth, c, D, ad, ty, A, Q, nL, vv⟩ := X
  obtain ⟨hx, hb, hml, hown, hts, hK, hD, hA, hlk, hZ⟩ := C
  intro h H locs ls hP hS hl
  rcases hκ with ⟨rfl, rfl⟩ | ⟨rfl, rfl⟩
  · exact va_gets hx hb hZ.2.2.2.2.2.2.2.2.1.1 hS hown (hts _ hw) (fun _ h9 => h9) hd (k h H locs ls hP hS hl)
  · exact va_gets hx hb hZ.2.2.2.2.2.2.2.2.1.2.2.1 hS hown (hts _ hw) (fun _ h9 => h9) hd (k h H locs ls hP hS hl)
theorem s_dig1 (C : Ok X own cc) {i : Int32} (hi : vp_in i 100) (hd : decode cc pc = .ok (.baload, 1)) (k : G X r0 ca sl μ (pc + 1) L (.int (nI (48 + i.toNatClampNeg % 10)) :: st) o) : G X r0 ca sl μ pc L (.int i :: .ref (xa X 56 0) :: st) o := by
  obtain ⟨p, l, e, R, s, m, args, below, meth, c, D, ad, ty, A, Q, nL, vv⟩ := X
  obtain ⟨hx, hb, hml, hown, hts, hK, hD, hA, hlk, hZ⟩ := C
  intro h H locs ls hP hS hl
  exact va_tb hx hb hZ.2.2.2.2.2.2.2.2.1.2.1 hS hi rfl hd (k h H locs ls hP hS hl)
theorem s_dig2 (C : Ok X own cc) {i : Int32} (hi : vp_in i 100) (hd : decode cc pc = .ok (.baload, 1)) (k : G X r0 ca sl μ (pc + 1) L (.int (nI (48 + i.toNatClampNeg / 10)) :: st) o) : G X r0 ca sl μ pc L (.int i :: .ref (xa X 57 0) :: st) o := by
  obtain ⟨p, l, e, R, s, m, args, below, meth, c, D, ad, ty, A, Q, nL, vv⟩ := X
  obtain ⟨hx, hb, hml, hown, hts, hK, hD, hA, hlk, hZ⟩ := C
  intro h H locs ls hP hS hl
  exact va_tb hx hb hZ.2.2.2.2.2.2.2.2.1.2.2.2.1 hS hi rfl hd (k h H locs ls hP hS hl)
end Units
def bcap (μ : Mem) : Nat := μ.2.1 33 0 0
/-- a builder in order: c bytes written, in room of less than 1000 -/
def SBk (c : Nat) (μ : Mem) : Prop := μ.1 32 0 1 = 0 ∧ bcap μ < 1000 ∧ c ≤ bcap μ ∧ μ.1 32 0 3 = nI c ∧ ∀ k, k < bcap μ → fits .byte (.int (μ.1 33 0 k)) = true
