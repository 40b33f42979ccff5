/-! THE TAPE OF PinEngines.<init> IS THE CLASS'S WORLD -/
def mbs (i : Nat) : Nat := if i = 0 then 90 else if i = 1 then 121 else if i = 2 then 156 else 190 + 31 * (i - 3)
def offC (κ n : Nat) : Nat := match κ with
  | 0 => 0
  | 1 => 1
  | 2 => 2
  | 3 => 3
  | 4 => 4 + n
  | 5 => 7 + 40 * n
  | 6 => 8 + 40 * n
  | 7 => 9 + 40 * n
  | 8 => 7 + 40 * (n / 4) + (4 + n % 4)
  | 9 => 7 + 40 * (n / 33) + (if n % 33 = 32 then 3 else 8 + n % 33)
  | 10 => 87
  | 11 => 88 + n
  | 12 => mbs n
  | 13 => mbs n + 1
  | 14 => mbs n + 2
  | 15 => mbs n + 3
  | 16 => mbs n + 4
  | 17 => mbs (n / 2) + (5 + n % 2)
  | 18 => mbs (n / 4) + (7 + 6 * (n % 4))
  | 19 => mbs (n / 8) + (7 + 6 * (n / 2 % 4) + (1 + 2 * (n % 2)))
  | 20 => mbs (n / 8) + (7 + 6 * (n / 2 % 4) + (2 + 2 * (n % 2)))
  | 21 => mbs (n / 4) + (7 + 6 * (n % 4) + 5)
  | 22 => 152
  | 23 => 153
  | 24 => 154 + n
  | 25 => 187
  | 32 => 188
  | _ => 189
def isC (κ : Nat) : Bool := κ < 26 || (κ == 32 || κ == 33)
def adP (ad : Nat → Nat → Nat) (b : Nat) : Nat → Nat → Nat := fun κ n => if isC κ then b + offC κ n else ad κ n
def mu0 : Mem := (fun κ _ k => match κ with
    | 0 => if k = 2 then -1 else 0
    | 2 => if k = 8 then -1 else 0
    | 8 => if k = 3 then -1 else if k = 4 then 256 else if k = 17 then 32 else if k = 18 then 32 else if k = 19 then 4 else 0
    | 9 => if k = 1 then -1 else if k = 5 then -1 else if k = 6 then -1 else 0
    | _ => 0,
  fun κ _ k => match κ with
    | 0 => if k = 5 then 1 else 0
    | 3 => 1
    | 10 => if k = 1 then 1 else 0
    | 33 => 16
    | _ => 0,
  fun _ _ _ => 0)
theorem app_get {A C B : List va_E} {a q : Nat} (h : A.length = a) (hq : q < C.length) : (A ++ (C ++ B))[a + q]? = C[q]? := by
  rw [List.getElem?_append_right (by omega), h, Nat.add_sub_cancel_left, List.getElem?_append_left hq]
theorem arrV_ext {cA : ClassId} {N : Nat} {f g : Nat → Value} (h : ∀ k, k < N → f k = g k) : arrV cA N f = arrV cA N g := by
  unfold arrV
  have e : (fun j : Fin N => f j.val) = fun j : Fin N => g j.val := funext fun j => h j.1 j.2
  rw [e]
section Conv
variable {D : va_G} {ad : Nat → Nat → Nat} {ty : Nat → ClassId} {b : Nat} {H : Heap} {kinds : List KD} {μ : Mem}
theorem at_obj {κ n cnt ci a : Nat} {sl : List SP} {fs : List Value} (h : va_at D vwCl (a, .inr (ci, fs)) H) (hk : kinds[κ]? = some (cnt, .inl (ci, sl))) (ha : ad κ n = a) (hf : sl.mapIdx (fun k sp => sv ad n (μ.1 κ n) (μ.2.1 κ n) k sp) = fs) : va_at D vwCl (ad κ n, cellK kinds ad ty μ κ n) H := by
  rw [cellK, kd_getD hk, ha]
  show va_at D vwCl (a, .inr (ci, sl.mapIdx (fun k sp => sv ad n (μ.1 κ n) (μ.2.1 κ n) k sp))) H
  rw [hf]
  exact h
theorem at_obj2 {κ n cnt ci a : Nat} {sl : List SP} {fs : List Value} (h : va_at D vwCl (a, .inr (ci, fs)) H) (hk : kinds[κ]? = some (cnt, .inl (ci, sl))) (ha : ad κ n = a) (hl : fs.length = sl.length) (hf : ∀ k sp, sl[k]? = some sp → fs[k]? = some (sv ad n (μ.1 κ n) (μ.2.1 κ n) k sp)) : va_at D vwCl (ad κ n, cellK kinds ad ty μ κ n) H := by
  refine at_obj h hk ha (List.ext_getElem? fun i => ?_)
  rw [List.getElem?_mapIdx]
  cases hc : sl[i]? with
  | none => exact (List.getElem?_eq_none (by rw [hl]; exact List.getElem?_eq_none_iff.mp hc)).symm
  | some sp => exact (hf i sp hc).symm
theorem at_arrI {κ n cnt t N a : Nat} {len : (Nat → Nat) → Nat → Nat} {f : Nat → Int32} (h : va_at D vwCl (a, .inl (ty t, N, .inl f)) H) (hk : kinds[κ]? = some (cnt, .inr (t, len, none))) (ha : ad κ n = a) (hl : len (μ.2.1 κ n) n = N) (hf : ∀ k, k < N → f k = μ.1 κ n k) : va_at D vwCl (ad κ n, cellK kinds ad ty μ κ n) H := by
  rw [cellK, kd_getD hk, ha]
  show H[a]? = some (vp_cell (ty t) (len (μ.2.1 κ n) n, .inl (μ.1 κ n)))
  rw [hl, vp_cell_i, ← arrV_ext (fun k hk => congrArg Value.int (hf k hk))]
  exact h
theorem at_arrQ {κ n cnt t N a κ2 : Nat} {g : Option (Nat → Nat → Nat)} {len : (Nat → Nat) → Nat → Nat} {f : Nat → Option Nat} (h : va_at D vwCl (a, .inl (ty t, N, .inr (.inr (.inr (.inr f))))) H) (hk : kinds[κ]? = some (cnt, .inr (t, len, some (some (κ2, g))))) (ha : ad κ n = a) (hl : len (μ.2.1 κ n) n = N)
    (hf : ∀ k, k < N → f k = some (ad κ2 (match g with | none => μ.2.1 κ n k | some g => g n k))) : va_at D vwCl (ad κ n, cellK kinds ad ty μ κ n) H := by
  rw [cellK, kd_getD hk, ha]
  cases g with
  | none =>
    show H[a]? = some (vp_cell (ty t) (len (μ.2.1 κ n) n, .inr (.inr (.inr (.inr (fun k => some (ad κ2 (μ.2.1 κ n k))))))))
    rw [hl, vp_cell_q, ← arrV_ext (f := fun k => va_rf (f k)) (fun k hk => congrArg va_rf (hf k hk))]
    exact h
  | some g =>
    show H[a]? = some (vp_cell (ty t) (len (μ.2.1 κ n) n, .inr (.inr (.inr (.inr (fun k => some (ad κ2 (g n k))))))))
    rw [hl, vp_cell_q, ← arrV_ext (f := fun k => va_rf (f k)) (fun k hk => congrArg va_rf (hf k hk))]
    exact h
end Conv
theorem pg_buf {ad : Nat → Nat → Nat} {ty : Nat → ClassId} {b : Nat} {q : Nat} (hq : q < 1) : (peE ad ty b 10 10)[1 + q]? = ([(.inl (ty 1, 1000, .inl (fun _ => 0)) : va_E)])[q]? := by
  have e : peE ad ty b 10 10 = ([(.inr (13, [.ref (b + 1), .int (0 : Int32), .int (-1 : Int32), .ref (b + 2), .ref (b + 7), .ref (b + 47), .ref (b + 87), .ref (b + 90), .ref (b + 121), .ref (b + 152), .ref (b + 153), .ref (b + 156), .int (0 : Int32), .ref (b + 187), .int (0 : Int32), .int (0 : Int32), .ref (b + 188)]) : va_E)]) ++ (([(.inl (ty 1, 1000, .inl (fun _ => 0)) : va_E)]) ++ (tcTok (ad) (ty) (b + 2) (b + 1) ++ (tcPro (ad) (ty) (b + 7) ++ (tcPro (ad) (ty) (b + 47) ++ (tcPrd (ad) (ty) (b + 87) (b + 2) (b + 47) ++ (tcMac (ad) (ty) (b + 90) ++ (tcMac (ad) (ty) (b + 121) ++ (tcSim (ad) (ty) (b + 152) (b + 7) (b + 90) ++ (tcQrd (ad) (ty) (b + 153) (b + 2) (b + 90) ++ (tcMac (ad) (ty) (b + 156) ++ ((peA ty b 10 :: (tcSB ad ty (b + 188) ++ pm ad ty b 10))))))))))))) := by unfold peE peP; simp only [List.append_assoc, List.cons_append, List.nil_append]
  rw [e]
  exact app_get (by simp only [List.length_cons, List.length_append, List.length_nil, tcTok_len, tcPro_len, tcPrd_len, tcMac_len, tcSim_len, tcQrd_len, tcSB_len]) hq
theorem pg_tok {ad : Nat → Nat → Nat} {ty : Nat → ClassId} {b : Nat} {q : Nat} (hq : q < 5) : (peE ad ty b 10 10)[2 + q]? = (tcTok (ad) (ty) (b + 2) (b + 1))[q]? := by
  have e : peE ad ty b 10 10 = ((.inr (13, [.ref (b + 1), .int (0 : Int32), .int (-1 : Int32), .ref (b + 2), .ref (b + 7), .ref (b + 47), .ref (b + 87), .ref (b + 90), .ref (b + 121), .ref (b + 152), .ref (b + 153), .ref (b + 156), .int (0 : Int32), .ref (b + 187), .int (0 : Int32), .int (0 : Int32), .ref (b + 188)]) : va_E) :: ([(.inl (ty 1, 1000, .inl (fun _ => 0)) : va_E)])) ++ ((tcTok (ad) (ty) (b + 2) (b + 1)) ++ (tcPro (ad) (ty) (b + 7) ++ (tcPro (ad) (ty) (b + 47) ++ (tcPrd (ad) (ty) (b + 87) (b + 2) (b + 47) ++ (tcMac (ad) (ty) (b + 90) ++ (tcMac (ad) (ty) (b + 121) ++ (tcSim (ad) (ty) (b + 152) (b + 7) (b + 90) ++ (tcQrd (ad) (ty) (b + 153) (b + 2) (b + 90) ++ (tcMac (ad) (ty) (b + 156) ++ ((peA ty b 10 :: (tcSB ad ty (b + 188) ++ pm ad ty b 10)))))))))))) := by unfold peE peP; simp only [List.append_assoc, List.cons_append, List.nil_append]
  rw [e]
  exact app_get (by simp only [List.length_cons, List.length_append, List.length_nil, tcTok_len, tcPro_len, tcPrd_len, tcMac_len, tcSim_len, tcQrd_len, tcSB_len]) hq
theorem pg_pro0 {ad : Nat → Nat → Nat} {ty : Nat → ClassId} {b : Nat} {q : Nat} (hq : q < 40) : (peE ad ty b 10 10)[7 + q]? = (tcPro (ad) (ty) (b + 7))[q]? := by
  have e : peE ad ty b 10 10 = ((.inr (13, [.ref (b + 1), .int (0 : Int32), .int (-1 : Int32), .ref (b + 2), .ref (b + 7), .ref (b + 47), .ref (b + 87), .ref (b + 90), .ref (b + 121), .ref (b + 152), .ref (b + 153), .ref (b + 156), .int (0 : Int32), .ref (b + 187), .int (0 : Int32), .int (0 : Int32), .ref (b + 188)]) : va_E) :: ([(.inl (ty 1, 1000, .inl (fun _ => 0)) : va_E)] ++ (tcTok (ad) (ty) (b + 2) (b + 1)))) ++ ((tcPro (ad) (ty) (b + 7)) ++ (tcPro (ad) (ty) (b + 47) ++ (tcPrd (ad) (ty) (b + 87) (b + 2) (b + 47) ++ (tcMac (ad) (ty) (b + 90) ++ (tcMac (ad) (ty) (b + 121) ++ (tcSim (ad) (ty) (b + 152) (b + 7) (b + 90) ++ (tcQrd (ad) (ty) (b + 153) (b + 2) (b + 90) ++ (tcMac (ad) (ty) (b + 156) ++ ((peA ty b 10 :: (tcSB ad ty (b + 188) ++ pm ad ty b 10))))))))))) := by unfold peE peP; simp only [List.append_assoc, List.cons_append, List.nil_append]
  rw [e]
  exact app_get (by simp only [List.length_cons, List.length_append, List.length_nil, tcTok_len, tcPro_len, tcPrd_len, tcMac_len, tcSim_len, tcQrd_len, tcSB_len]) hq
theorem pg_pro1 {ad : Nat → Nat → Nat} {ty : Nat → ClassId} {b : Nat} {q : Nat} (hq : q < 40) : (peE ad ty b 10 10)[47 + q]? = (tcPro (ad) (ty) (b + 47))[q]? := by
  have e : peE ad ty b 10 10 = ((.inr (13, [.ref (b + 1), .int (0 : Int32), .int (-1 : Int32), .ref (b + 2), .ref (b + 7), .ref (b + 47), .ref (b + 87), .ref (b + 90), .ref (b + 121), .ref (b + 152), .ref (b + 153), .ref (b + 156), .int (0 : Int32), .ref (b + 187), .int (0 : Int32), .int (0 : Int32), .ref (b + 188)]) : va_E) :: ([(.inl (ty 1, 1000, .inl (fun _ => 0)) : va_E)] ++ (tcTok (ad) (ty) (b + 2) (b + 1) ++ (tcPro (ad) (ty) (b + 7))))) ++ ((tcPro (ad) (ty) (b + 47)) ++ (tcPrd (ad) (ty) (b + 87) (b + 2) (b + 47) ++ (tcMac (ad) (ty) (b + 90) ++ (tcMac (ad) (ty) (b + 121) ++ (tcSim (ad) (ty) (b + 152) (b + 7) (b + 90) ++ (tcQrd (ad) (ty) (b + 153) (b + 2) (b + 90) ++ (tcMac (ad) (ty) (b + 156) ++ ((peA ty b 10 :: (tcSB ad ty (b + 188) ++ pm ad ty b 10)))))))))) := by unfold peE peP; simp only [List.append_assoc, List.cons_append, List.nil_append]
  rw [e]
  exact app_get (by simp only [List.length_cons, List.length_append, List.length_nil, tcTok_len, tcPro_len, tcPrd_len, tcMac_len, tcSim_len, tcQrd_len, tcSB_len]) hq
theorem pg_prd {ad : Nat → Nat → Nat} {ty : Nat → ClassId} {b : Nat} {q : Nat} (hq : q < 3) : (peE ad ty b 10 10)[87 + q]? = (tcPrd (ad) (ty) (b + 87) (b + 2) (b + 47))[q]? := by
  have e : peE ad ty b 10 10 = ((.inr (13, [.ref (b + 1), .int (0 : Int32), .int (-1 : Int32), .ref (b + 2), .ref (b + 7), .ref (b + 47), .ref (b + 87), .ref (b + 90), .ref (b + 121), .ref (b + 152), .ref (b + 153), .ref (b + 156), .int (0 : Int32), .ref (b + 187), .int (0 : Int32), .int (0 : Int32), .ref (b + 188)]) : va_E) :: ([(.inl (ty 1, 1000, .inl (fun _ => 0)) : va_E)] ++ (tcTok (ad) (ty) (b + 2) (b + 1) ++ (tcPro (ad) (ty) (b + 7) ++ (tcPro (ad) (ty) (b + 47)))))) ++ ((tcPrd (ad) (ty) (b + 87) (b + 2) (b + 47)) ++ (tcMac (ad) (ty) (b + 90) ++ (tcMac (ad) (ty) (b + 121) ++ (tcSim (ad) (ty) (b + 152) (b + 7) (b + 90) ++ (tcQrd (ad) (ty) (b + 153) (b + 2) (b + 90) ++ (tcMac (ad) (ty) (b + 156) ++ ((peA ty b 10 :: (tcSB ad ty (b + 188) ++ pm ad ty b 10))))))))) := by unfold peE peP; simp only [List.append_assoc, List.cons_append, List.nil_append]
  rw [e]
  exact app_get (by simp only [List.length_cons, List.length_append, List.length_nil, tcTok_len, tcPro_len, tcPrd_len, tcMac_len, tcSim_len, tcQrd_len, tcSB_len]) hq
theorem pg_mac0 {ad : Nat → Nat → Nat} {ty : Nat → ClassId} {b : Nat} {q : Nat} (hq : q < 31) : (peE ad ty b 10 10)[90 + q]? = (tcMac (ad) (ty) (b + 90))[q]? := by
  have e : peE ad ty b 10 10 = ((.inr (13, [.ref (b + 1), .int (0 : Int32), .int (-1 : Int32), .ref (b + 2), .ref (b + 7), .ref (b + 47), .ref (b + 87), .ref (b + 90), .ref (b + 121), .ref (b + 152), .ref (b + 153), .ref (b + 156), .int (0 : Int32), .ref (b + 187), .int (0 : Int32), .int (0 : Int32), .ref (b + 188)]) : va_E) :: ([(.inl (ty 1, 1000, .inl (fun _ => 0)) : va_E)] ++ (tcTok (ad) (ty) (b + 2) (b + 1) ++ (tcPro (ad) (ty) (b + 7) ++ (tcPro (ad) (ty) (b + 47) ++ (tcPrd (ad) (ty) (b + 87) (b + 2) (b + 47))))))) ++ ((tcMac (ad) (ty) (b + 90)) ++ (tcMac (ad) (ty) (b + 121) ++ (tcSim (ad) (ty) (b + 152) (b + 7) (b + 90) ++ (tcQrd (ad) (ty) (b + 153) (b + 2) (b + 90) ++ (tcMac (ad) (ty) (b + 156) ++ ((peA ty b 10 :: (tcSB ad ty (b + 188) ++ pm ad ty b 10)))))))) := by unfold peE peP; simp only [List.append_assoc, List.cons_append, List.nil_append]
  rw [e]
  exact app_get (by simp only [List.length_cons, List.length_append, List.length_nil, tcTok_len, tcPro_len, tcPrd_len, tcMac_len, tcSim_len, tcQrd_len, tcSB_len]) hq
theorem pg_mac1 {ad : Nat → Nat → Nat} {ty : Nat → ClassId} {b : Nat} {q : Nat} (hq : q < 31) : (peE ad ty b 10 10)[121 + q]? = (tcMac (ad) (ty) (b + 121))[q]? := by
  have e : peE ad ty b 10 10 = ((.inr (13, [.ref (b + 1), .int (0 : Int32), .int (-1 : Int32), .ref (b + 2), .ref (b + 7), .ref (b + 47), .ref (b + 87), .ref (b + 90), .ref (b + 121), .ref (b + 152), .ref (b + 153), .ref (b + 156), .int (0 : Int32), .ref (b + 187), .int (0 : Int32), .int (0 : Int32), .ref (b + 188)]) : va_E) :: ([(.inl (ty 1, 1000, .inl (fun _ => 0)) : va_E)] ++ (tcTok (ad) (ty) (b + 2) (b + 1) ++ (tcPro (ad) (ty) (b + 7) ++ (tcPro (ad) (ty) (b + 47) ++ (tcPrd (ad) (ty) (b + 87) (b + 2) (b + 47) ++ (tcMac (ad) (ty) (b + 90)))))))) ++ ((tcMac (ad) (ty) (b + 121)) ++ (tcSim (ad) (ty) (b + 152) (b + 7) (b + 90) ++ (tcQrd (ad) (ty) (b + 153) (b + 2) (b + 90) ++ (tcMac (ad) (ty) (b + 156) ++ ((peA ty b 10 :: (tcSB ad ty (b + 188) ++ pm ad ty b 10))))))) := by unfold peE peP; simp only [List.append_assoc, List.cons_append, List.nil_append]
  rw [e]
  exact app_get (by simp only [List.length_cons, List.length_append, List.length_nil, tcTok_len, tcPro_len, tcPrd_len, tcMac_len, tcSim_len, tcQrd_len, tcSB_len]) hq
theorem pg_sim {ad : Nat → Nat → Nat} {ty : Nat → ClassId} {b : Nat} {q : Nat} (hq : q < 1) : (peE ad ty b 10 10)[152 + q]? = (tcSim (ad) (ty) (b + 152) (b + 7) (b + 90))[q]? := by
  have e : peE ad ty b 10 10 = ((.inr (13, [.ref (b + 1), .int (0 : Int32), .int (-1 : Int32), .ref (b + 2), .ref (b + 7), .ref (b + 47), .ref (b + 87), .ref (b + 90), .ref (b + 121), .ref (b + 152), .ref (b + 153), .ref (b + 156), .int (0 : Int32), .ref (b + 187), .int (0 : Int32), .int (0 : Int32), .ref (b + 188)]) : va_E) :: ([(.inl (ty 1, 1000, .inl (fun _ => 0)) : va_E)] ++ (tcTok (ad) (ty) (b + 2) (b + 1) ++ (tcPro (ad) (ty) (b + 7) ++ (tcPro (ad) (ty) (b + 47) ++ (tcPrd (ad) (ty) (b + 87) (b + 2) (b + 47) ++ (tcMac (ad) (ty) (b + 90) ++ (tcMac (ad) (ty) (b + 121))))))))) ++ ((tcSim (ad) (ty) (b + 152) (b + 7) (b + 90)) ++ (tcQrd (ad) (ty) (b + 153) (b + 2) (b + 90) ++ (tcMac (ad) (ty) (b + 156) ++ ((peA ty b 10 :: (tcSB ad ty (b + 188) ++ pm ad ty b 10)))))) := by unfold peE peP; simp only [List.append_assoc, List.cons_append, List.nil_append]
  rw [e]
  exact app_get (by simp only [List.length_cons, List.length_append, List.length_nil, tcTok_len, tcPro_len, tcPrd_len, tcMac_len, tcSim_len, tcQrd_len, tcSB_len]) hq
theorem pg_qrd {ad : Nat → Nat → Nat} {ty : Nat → ClassId} {b : Nat} {q : Nat} (hq : q < 3) : (peE ad ty b 10 10)[153 + q]? = (tcQrd (ad) (ty) (b + 153) (b + 2) (b + 90))[q]? := by
  have e : peE ad ty b 10 10 = ((.inr (13, [.ref (b + 1), .int (0 : Int32), .int (-1 : Int32), .ref (b + 2), .ref (b + 7), .ref (b + 47), .ref (b + 87), .ref (b + 90), .ref (b + 121), .ref (b + 152), .ref (b + 153), .ref (b + 156), .int (0 : Int32), .ref (b + 187), .int (0 : Int32), .int (0 : Int32), .ref (b + 188)]) : va_E) :: ([(.inl (ty 1, 1000, .inl (fun _ => 0)) : va_E)] ++ (tcTok (ad) (ty) (b + 2) (b + 1) ++ (tcPro (ad) (ty) (b + 7) ++ (tcPro (ad) (ty) (b + 47) ++ (tcPrd (ad) (ty) (b + 87) (b + 2) (b + 47) ++ (tcMac (ad) (ty) (b + 90) ++ (tcMac (ad) (ty) (b + 121) ++ (tcSim (ad) (ty) (b + 152) (b + 7) (b + 90)))))))))) ++ ((tcQrd (ad) (ty) (b + 153) (b + 2) (b + 90)) ++ (tcMac (ad) (ty) (b + 156) ++ ((peA ty b 10 :: (tcSB ad ty (b + 188) ++ pm ad ty b 10))))) := by unfold peE peP; simp only [List.append_assoc, List.cons_append, List.nil_append]
  rw [e]
  exact app_get (by simp only [List.length_cons, List.length_append, List.length_nil, tcTok_len, tcPro_len, tcPrd_len, tcMac_len, tcSim_len, tcQrd_len, tcSB_len]) hq
theorem pg_mac2 {ad : Nat → Nat → Nat} {ty : Nat → ClassId} {b : Nat} {q : Nat} (hq : q < 31) : (peE ad ty b 10 10)[156 + q]? = (tcMac (ad) (ty) (b + 156))[q]? := by
  have e : peE ad ty b 10 10 = ((.inr (13, [.ref (b + 1), .int (0 : Int32), .int (-1 : Int32), .ref (b + 2), .ref (b + 7), .ref (b + 47), .ref (b + 87), .ref (b + 90), .ref (b + 121), .ref (b + 152), .ref (b + 153), .ref (b + 156), .int (0 : Int32), .ref (b + 187), .int (0 : Int32), .int (0 : Int32), .ref (b + 188)]) : va_E) :: ([(.inl (ty 1, 1000, .inl (fun _ => 0)) : va_E)] ++ (tcTok (ad) (ty) (b + 2) (b + 1) ++ (tcPro (ad) (ty) (b + 7) ++ (tcPro (ad) (ty) (b + 47) ++ (tcPrd (ad) (ty) (b + 87) (b + 2) (b + 47) ++ (tcMac (ad) (ty) (b + 90) ++ (tcMac (ad) (ty) (b + 121) ++ (tcSim (ad) (ty) (b + 152) (b + 7) (b + 90) ++ (tcQrd (ad) (ty) (b + 153) (b + 2) (b + 90))))))))))) ++ ((tcMac (ad) (ty) (b + 156)) ++ ((peA ty b 10 :: (tcSB ad ty (b + 188) ++ pm ad ty b 10)))) := by unfold peE peP; simp only [List.append_assoc, List.cons_append, List.nil_append]
  rw [e]
  exact app_get (by simp only [List.length_cons, List.length_append, List.length_nil, tcTok_len, tcPro_len, tcPrd_len, tcMac_len, tcSim_len, tcQrd_len, tcSB_len]) hq
theorem pg_sb {ad : Nat → Nat → Nat} {ty : Nat → ClassId} {b : Nat} {q : Nat} (hq : q < 2) : (peE ad ty b 10 10)[188 + q]? = (tcSB ad ty (b + 188))[q]? := by
  have e : peE ad ty b 10 10 = (peP ad ty b ++ [peA ty b 10]) ++ (tcSB ad ty (b + 188) ++ pm ad ty b 10) := by unfold peE; simp only [List.append_assoc, List.cons_append, List.nil_append]
  rw [e]
  exact app_get (by rw [List.length_append, peP_len]; rfl) hq
theorem pm_get {ad : Nat → Nat → Nat} {ty : Nat → ClassId} {b : Nat} {q : Nat} (hq : q < 31) : ∀ (k j : Nat), j < k → (pm ad ty b k)[31 * j + q]? = (tcMac ad ty (b + (190 + 31 * j)))[q]?
  | 0, _, h => absurd h (Nat.not_lt_zero _)
  | k + 1, j, h => by
    rw [pm_succ]
    by_cases hj : j = k
    · subst hj
      rw [List.getElem?_append_right (by rw [pm_len]; omega), pm_len, Nat.add_sub_cancel_left]
    · rw [List.getElem?_append_left (by rw [pm_len]; omega)]
      exact pm_get hq k j (by omega)
theorem pg_mac {ad : Nat → Nat → Nat} {ty : Nat → ClassId} {b : Nat} {i q : Nat} (hi : i < 13) (hq : q < 31) : (peE ad ty b 10 10)[mbs i + q]? = (tcMac ad ty (b + mbs i))[q]? := by
  unfold mbs
  by_cases h0 : i = 0
  · rw [if_pos h0]; exact pg_mac0 hq
  · rw [if_neg h0]
    by_cases h1 : i = 1
    · rw [if_pos h1]; exact pg_mac1 hq
    · rw [if_neg h1]
      by_cases h2 : i = 2
      · rw [if_pos h2]; exact pg_mac2 hq
      · rw [if_neg h2]
        have e : peE ad ty b 10 10 = (peP ad ty b ++ (peA ty b 10 :: tcSB ad ty (b + 188))) ++ pm ad ty b 10 := by unfold peE; simp only [List.append_assoc, List.cons_append, List.nil_append]
        rw [e, show 190 + 31 * (i - 3) + q = 190 + (31 * (i - 3) + q) by omega, List.getElem?_append_right (by rw [List.length_append, peP_len, List.length_cons, tcSB_len]; omega), List.length_append, peP_len, List.length_cons, tcSB_len, show 190 + (31 * (i - 3) + q) - (187 + (2 + 1)) = 31 * (i - 3) + q by omega]
        exact pm_get hq 10 (i - 3) (by omega)
theorem pg_pro {ad : Nat → Nat → Nat} {ty : Nat → ClassId} {b : Nat} {i q : Nat} (hi : i < 2) (hq : q < 40) : (peE ad ty b 10 10)[7 + 40 * i + q]? = (tcPro ad ty (b + (7 + 40 * i)))[q]? := by
  rcases (show i = 0 ∨ i = 1 by omega) with rfl | rfl
  · exact pg_pro0 hq
  · exact pg_pro1 hq
theorem ad17a {ad : Nat → Nat → Nat} {b n : Nat} : adP ad b 17 (2 * n) = b + mbs n + 5 := by
  show b + (mbs (2 * n / 2) + (5 + 2 * n % 2)) = _
  rw [show 2 * n / 2 = n by omega, show 2 * n % 2 = 0 by omega]; omega
theorem ad17b {ad : Nat → Nat → Nat} {b n : Nat} : adP ad b 17 (2 * n + 1) = b + mbs n + 6 := by
  show b + (mbs ((2 * n + 1) / 2) + (5 + (2 * n + 1) % 2)) = _
  rw [show (2 * n + 1) / 2 = n by omega, show (2 * n + 1) % 2 = 1 by omega]; omega
theorem ad19a {ad : Nat → Nat → Nat} {b n : Nat} : adP ad b 19 (2 * n) = b + mbs (n / 4) + (8 + 6 * (n % 4)) := by
  show b + (mbs (2 * n / 8) + (7 + 6 * (2 * n / 2 % 4) + (1 + 2 * (2 * n % 2)))) = _
  rw [show 2 * n / 8 = n / 4 by omega, show 2 * n / 2 % 4 = n % 4 by omega, show 2 * n % 2 = 0 by omega]; omega
theorem ad19b {ad : Nat → Nat → Nat} {b n : Nat} : adP ad b 19 (2 * n + 1) = b + mbs (n / 4) + (10 + 6 * (n % 4)) := by
  show b + (mbs ((2 * n + 1) / 8) + (7 + 6 * ((2 * n + 1) / 2 % 4) + (1 + 2 * ((2 * n + 1) % 2)))) = _
  rw [show (2 * n + 1) / 8 = n / 4 by omega, show (2 * n + 1) / 2 % 4 = n % 4 by omega, show (2 * n + 1) % 2 = 1 by omega]; omega
theorem ad20 {ad : Nat → Nat → Nat} {b n : Nat} : adP ad b 20 n = b + mbs (n / 8) + (9 + 6 * (n / 2 % 4) + 2 * (n % 2)) := by
  show b + (mbs (n / 8) + (7 + 6 * (n / 2 % 4) + (2 + 2 * (n % 2)))) = _
  omega
theorem ad21 {ad : Nat → Nat → Nat} {b n : Nat} : adP ad b 21 n = b + mbs (n / 4) + (12 + 6 * (n % 4)) := by
  show b + (mbs (n / 4) + (7 + 6 * (n % 4) + 5)) = _
  omega
theorem pk_0 {D : va_G} {ad : Nat → Nat → Nat} {ty : Nat → ClassId} {b : Nat} {H : Heap} (hP : va_P D vwCl (tp b (peE ad ty b 10 10)) H) : va_at D vwCl (adP ad b 0 0, cellK (kdL 0) (adP ad b) ty mu0 0 0) H := by
  have h := hP _ _ (tp_get ((show (peE ad ty b 10 10)[0]? = some _ from rfl)))
  exact at_obj h (kk0 0) rfl rfl
theorem pk_1 {D : va_G} {ad : Nat → Nat → Nat} {ty : Nat → ClassId} {b : Nat} {H : Heap} (hP : va_P D vwCl (tp b (peE ad ty b 10 10)) H) : va_at D vwCl (adP ad b 1 0, cellK (kdL 0) (adP ad b) ty mu0 1 0) H := by
  have h := hP _ _ (tp_get (pg_buf (q := 0) (by decide)))
  exact at_arrI h (kk1 0) rfl rfl (fun _ _ => rfl)
theorem pk_2 {D : va_G} {ad : Nat → Nat → Nat} {ty : Nat → ClassId} {b : Nat} {H : Heap} (hP : va_P D vwCl (tp b (peE ad ty b 10 10)) H) : va_at D vwCl (adP ad b 2 0, cellK (kdL 0) (adP ad b) ty mu0 2 0) H := by
  have h := hP _ _ (tp_get (pg_tok (q := 0) (by decide)))
  exact at_obj h (kk2 0) rfl rfl
theorem pk_3 {D : va_G} {ad : Nat → Nat → Nat} {ty : Nat → ClassId} {b : Nat} {H : Heap} (hP : va_P D vwCl (tp b (peE ad ty b 10 10)) H) : va_at D vwCl (adP ad b 3 0, cellK (kdL 0) (adP ad b) ty mu0 3 0) H := by
  have h := hP _ _ (tp_get (pg_tok (q := 1) (by decide)))
  exact at_arrQ h (kk3 0) rfl rfl (fun k hk => if_pos hk)
theorem pk_4 {D : va_G} {ad : Nat → Nat → Nat} {ty : Nat → ClassId} {b : Nat} {H : Heap} (hP : va_P D vwCl (tp b (peE ad ty b 10 10)) H) {n : Nat} (hn : n < 3) : va_at D vwCl (adP ad b 4 n, cellK (kdL 0) (adP ad b) ty mu0 4 n) H := by
  rcases (show n = 0 ∨ n = 1 ∨ n = 2 by omega) with rfl | rfl | rfl
  · have h := hP _ _ (tp_get (pg_tok (q := 2) (by decide)))
    exact at_arrI h (kk4 0) rfl rfl (fun _ _ => rfl)
  · have h := hP _ _ (tp_get (pg_tok (q := 3) (by decide)))
    exact at_arrI h (kk4 0) rfl rfl (fun _ _ => rfl)
  · have h := hP _ _ (tp_get (pg_tok (q := 4) (by decide)))
    exact at_arrI h (kk4 0) rfl rfl (fun _ _ => rfl)
theorem pk_5 {D : va_G} {ad : Nat → Nat → Nat} {ty : Nat → ClassId} {b : Nat} {H : Heap} (hP : va_P D vwCl (tp b (peE ad ty b 10 10)) H) {n : Nat} (hn : n < 2) : va_at D vwCl (adP ad b 5 n, cellK (kdL 0) (adP ad b) ty mu0 5 n) H := by
  rcases (show n = 0 ∨ n = 1 by omega) with rfl | rfl
  · have h := hP _ _ (tp_get (pg_pro0 (q := 0) (by decide)))
    exact at_obj h (kk5 0) rfl rfl
  · have h := hP _ _ (tp_get (pg_pro1 (q := 0) (by decide)))
    exact at_obj h (kk5 0) rfl rfl
theorem pk_6 {D : va_G} {ad : Nat → Nat → Nat} {ty : Nat → ClassId} {b : Nat} {H : Heap} (hP : va_P D vwCl (tp b (peE ad ty b 10 10)) H) {n : Nat} (hn : n < 2) : va_at D vwCl (adP ad b 6 n, cellK (kdL 0) (adP ad b) ty mu0 6 n) H := by
  rcases (show n = 0 ∨ n = 1 by omega) with rfl | rfl
  · have h := hP _ _ (tp_get (pg_pro0 (q := 1) (by decide)))
    exact at_arrQ h (kk6 0) rfl rfl (fun k hk => (if_pos hk).trans (congrArg some (by have hk : k < 4 := hk; rcases (show k = 0 ∨ k = 1 ∨ k = 2 ∨ k = 3 by omega) with rfl | rfl | rfl | rfl <;> rfl)))
  · have h := hP _ _ (tp_get (pg_pro1 (q := 1) (by decide)))
    exact at_arrQ h (kk6 0) rfl rfl (fun k hk => (if_pos hk).trans (congrArg some (by have hk : k < 4 := hk; rcases (show k = 0 ∨ k = 1 ∨ k = 2 ∨ k = 3 by omega) with rfl | rfl | rfl | rfl <;> rfl)))
theorem adP_9 {ad : Nat → Nat → Nat} {b n k : Nat} (hn : n < 2) (hk : k < 32) : adP ad b 9 (33 * n + k) = b + (7 + 40 * n) + (8 + k) := by
  show b + (7 + 40 * ((33 * n + k) / 33) + (if (33 * n + k) % 33 = 32 then 3 else 8 + (33 * n + k) % 33)) = _
  rw [show (33 * n + k) / 33 = n by omega, show (33 * n + k) % 33 = k by omega, if_neg (by omega)]
  omega
theorem pk_7 {D : va_G} {ad : Nat → Nat → Nat} {ty : Nat → ClassId} {b : Nat} {H : Heap} (hP : va_P D vwCl (tp b (peE ad ty b 10 10)) H) {n : Nat} (hn : n < 2) : va_at D vwCl (adP ad b 7 n, cellK (kdL 0) (adP ad b) ty mu0 7 n) H := by
  rcases (show n = 0 ∨ n = 1 by omega) with rfl | rfl
  · have h := hP _ _ (tp_get (pg_pro0 (q := 2) (by decide)))
    exact at_arrQ h (kk7 0) rfl rfl (fun k hk => (if_pos hk).trans (congrArg some (adP_9 (n := 0) (by decide) hk).symm))
  · have h := hP _ _ (tp_get (pg_pro1 (q := 2) (by decide)))
    exact at_arrQ h (kk7 0) rfl rfl (fun k hk => (if_pos hk).trans (congrArg some (adP_9 (n := 1) (by decide) hk).symm))
theorem tcPro_set {ad : Nat → Nat → Nat} {ty : Nat → ClassId} {b e : Nat} (he : e < 4) : (tcPro ad ty b)[4 + e]? = some (.inr (9, [.int (0 : Int32), .int (0 : Int32), .int (0 : Int32), .int (-1 : Int32), .int (256 : Int32), .int (0 : Int32), .int (0 : Int32), .int (0 : Int32), .int (0 : Int32), .int (0 : Int32), .int (0 : Int32), .int (0 : Int32), .int (0 : Int32), .int (0 : Int32), .int (0 : Int32), .int (0 : Int32), .int (0 : Int32), .int (32 : Int32), .int (32 : Int32), .int (4 : Int32)])) := by
  rcases (show e = 0 ∨ e = 1 ∨ e = 2 ∨ e = 3 by omega) with rfl | rfl | rfl | rfl <;> rfl
theorem pk_8 {D : va_G} {ad : Nat → Nat → Nat} {ty : Nat → ClassId} {b : Nat} {H : Heap} (hP : va_P D vwCl (tp b (peE ad ty b 10 10)) H) {n : Nat} (hn : n < 8) : va_at D vwCl (adP ad b 8 n, cellK (kdL 0) (adP ad b) ty mu0 8 n) H := by
  have h := hP _ _ (tp_get ((pg_pro (i := n / 4) (q := 4 + n % 4) (by omega) (by omega)).trans (tcPro_set (by omega))))
  exact at_obj2 h (kk8 0) rfl rfl (fun k sp hk => match k, hk with
    | 0, hk => by cases hk; rfl
    | 1, hk => by cases hk; rfl
    | 2, hk => by cases hk; rfl
    | 3, hk => by cases hk; rfl
    | 4, hk => by cases hk; rfl
    | 5, hk => by cases hk; rfl
    | 6, hk => by cases hk; rfl
    | 7, hk => by cases hk; rfl
    | 8, hk => by cases hk; rfl
    | 9, hk => by cases hk; rfl
    | 10, hk => by cases hk; rfl
    | 11, hk => by cases hk; rfl
    | 12, hk => by cases hk; rfl
    | 13, hk => by cases hk; rfl
    | 14, hk => by cases hk; rfl
    | 15, hk => by cases hk; rfl
    | 16, hk => by cases hk; rfl
    | 17, hk => by cases hk; rfl
    | 18, hk => by cases hk; rfl
    | 19, hk => by cases hk; rfl
    | _ + 20, hk => nomatch hk)
theorem tcPro_ins {ad : Nat → Nat → Nat} {ty : Nat → ClassId} {b k : Nat} (hk : k < 32) : (tcPro ad ty b)[8 + k]? = some (.inr (3, [.ref (ad 50 0), .int (-1 : Int32), .ref (ad 50 0), .ref (ad 50 0), .ref (ad 50 0), .int (-1 : Int32), .int (-1 : Int32), .int (0 : Int32)])) := by
  unfold tcPro
  rw [List.getElem?_append_right (Nat.le_add_right 8 k)]
  show (List.replicate 32 _)[8 + k - 8]? = _
  rw [Nat.add_sub_cancel_left, List.getElem?_replicate, if_pos hk]
set_option maxHeartbeats 8000000 in
set_option maxRecDepth 100000 in
theorem pk_9 {D : va_G} {ad : Nat → Nat → Nat} {ty : Nat → ClassId} {b : Nat} {H : Heap} (hP : va_P D vwCl (tp b (peE ad ty b 10 10)) H) {n : Nat} (hn : n < 66) : va_at D vwCl (adP ad b 9 n, cellK (kdL 0) (adP ad b) ty mu0 9 n) H := by
  by_cases e : n % 33 = 32
  · have h := hP _ _ (tp_get (pg_pro (i := n / 33) (q := 3) (by omega) (by decide)))
    exact at_obj h (kk9 0) (by show b + (7 + 40 * (n / 33) + (if n % 33 = 32 then 3 else 8 + n % 33)) = _; rw [if_pos e]) rfl
  · have h := hP _ _ (tp_get ((pg_pro (i := n / 33) (q := 8 + n % 33) (by omega) (by omega)).trans (tcPro_ins (by omega))))
    exact at_obj h (kk9 0) (by show b + (7 + 40 * (n / 33) + (if n % 33 = 32 then 3 else 8 + n % 33)) = _; rw [if_neg e]) rfl
theorem pk_10 {D : va_G} {ad : Nat → Nat → Nat} {ty : Nat → ClassId} {b : Nat} {H : Heap} (hP : va_P D vwCl (tp b (peE ad ty b 10 10)) H) : va_at D vwCl (adP ad b 10 0, cellK (kdL 0) (adP ad b) ty mu0 10 0) H := by
  have h := hP _ _ (tp_get (pg_prd (q := 0) (by decide)))
  exact at_obj h (kk10 0) rfl rfl
theorem pk_11 {D : va_G} {ad : Nat → Nat → Nat} {ty : Nat → ClassId} {b : Nat} {H : Heap} (hP : va_P D vwCl (tp b (peE ad ty b 10 10)) H) {n : Nat} (hn : n < 2) : va_at D vwCl (adP ad b 11 n, cellK (kdL 0) (adP ad b) ty mu0 11 n) H := by
  rcases (show n = 0 ∨ n = 1 by omega) with rfl | rfl
  · have h := hP _ _ (tp_get (pg_prd (q := 1) (by decide)))
    exact at_arrI h (kk11 0) rfl rfl (fun _ _ => rfl)
  · have h := hP _ _ (tp_get (pg_prd (q := 2) (by decide)))
    exact at_arrI h (kk11 0) rfl rfl (fun _ _ => rfl)
set_option maxHeartbeats 8000000 in
set_option maxRecDepth 100000 in
theorem pk_12 {D : va_G} {ad : Nat → Nat → Nat} {ty : Nat → ClassId} {b : Nat} {H : Heap} (hP : va_P D vwCl (tp b (peE ad ty b 10 10)) H) {n : Nat} (hn : n < 13) : va_at D vwCl (adP ad b 12 n, cellK (kdL 0) (adP ad b) ty mu0 12 n) H := by
  have h := hP _ _ (tp_get (pg_mac (i := n) (q := 0) hn (by decide)))
  exact at_obj h (kk12 0) rfl (by rw [← ad17a (ad := ad), ← ad17b (ad := ad)]; rfl)
theorem pk_13 {D : va_G} {ad : Nat → Nat → Nat} {ty : Nat → ClassId} {b : Nat} {H : Heap} (hP : va_P D vwCl (tp b (peE ad ty b 10 10)) H) {n : Nat} (hn : n < 13) : va_at D vwCl (adP ad b 13 n, cellK (kdL 0) (adP ad b) ty mu0 13 n) H := by
  have h := hP _ _ (tp_get (pg_mac (i := n) (q := 1) hn (by decide)))
  exact at_arrI h (kk13 0) rfl rfl (fun _ _ => rfl)
theorem pk_14 {D : va_G} {ad : Nat → Nat → Nat} {ty : Nat → ClassId} {b : Nat} {H : Heap} (hP : va_P D vwCl (tp b (peE ad ty b 10 10)) H) {n : Nat} (hn : n < 13) : va_at D vwCl (adP ad b 14 n, cellK (kdL 0) (adP ad b) ty mu0 14 n) H := by
  have h := hP _ _ (tp_get (pg_mac (i := n) (q := 2) hn (by decide)))
  exact at_arrQ h (kk14 0) rfl rfl (fun k hk => (if_pos hk).trans (congrArg some (by have hk : k < 4 := hk; show b + mbs n + (7 + 6 * k) = b + (mbs ((4 * n + k) / 4) + (7 + 6 * ((4 * n + k) % 4))); rw [show (4 * n + k) / 4 = n by omega, show (4 * n + k) % 4 = k by omega]; omega)))
theorem pk_15 {D : va_G} {ad : Nat → Nat → Nat} {ty : Nat → ClassId} {b : Nat} {H : Heap} (hP : va_P D vwCl (tp b (peE ad ty b 10 10)) H) {n : Nat} (hn : n < 13) : va_at D vwCl (adP ad b 15 n, cellK (kdL 0) (adP ad b) ty mu0 15 n) H := by
  have h := hP _ _ (tp_get (pg_mac (i := n) (q := 3) hn (by decide)))
  exact at_arrI h (kk15 0) rfl rfl (fun _ _ => rfl)
theorem pk_16 {D : va_G} {ad : Nat → Nat → Nat} {ty : Nat → ClassId} {b : Nat} {H : Heap} (hP : va_P D vwCl (tp b (peE ad ty b 10 10)) H) {n : Nat} (hn : n < 13) : va_at D vwCl (adP ad b 16 n, cellK (kdL 0) (adP ad b) ty mu0 16 n) H := by
  have h := hP _ _ (tp_get (pg_mac (i := n) (q := 4) hn (by decide)))
  exact at_arrI h (kk16 0) rfl rfl (fun _ _ => rfl)
set_option maxHeartbeats 8000000 in
set_option maxRecDepth 100000 in
theorem pk_17 {D : va_G} {ad : Nat → Nat → Nat} {ty : Nat → ClassId} {b : Nat} {H : Heap} (hP : va_P D vwCl (tp b (peE ad ty b 10 10)) H) {n : Nat} (hn : n < 26) : va_at D vwCl (adP ad b 17 n, cellK (kdL 0) (adP ad b) ty mu0 17 n) H := by
  have g := pg_mac (ad := ad) (ty := ty) (b := b) (i := n / 2) (q := 5 + n % 2) (by omega) (by omega)
  rcases (show n % 2 = 0 ∨ n % 2 = 1 by omega) with e | e <;> (rw [e] at g; have h := hP _ _ (tp_get g); exact at_arrI h (kk17 0) (by show b + (mbs (n / 2) + (5 + n % 2)) = _; rw [e]) rfl (fun _ _ => rfl))
set_option maxHeartbeats 8000000 in
set_option maxRecDepth 100000 in
theorem pk_18 {D : va_G} {ad : Nat → Nat → Nat} {ty : Nat → ClassId} {b : Nat} {H : Heap} (hP : va_P D vwCl (tp b (peE ad ty b 10 10)) H) {n : Nat} (hn : n < 52) : va_at D vwCl (adP ad b 18 n, cellK (kdL 0) (adP ad b) ty mu0 18 n) H := by
  have g := pg_mac (ad := ad) (ty := ty) (b := b) (i := n / 4) (q := 7 + 6 * (n % 4)) (by omega) (by omega)
  rcases (show n % 4 = 0 ∨ n % 4 = 1 ∨ n % 4 = 2 ∨ n % 4 = 3 by omega) with e | e | e | e <;> (rw [e] at g; have h := hP _ _ (tp_get g); refine at_obj h (kk18 0) (by show b + (mbs (n / 4) + (7 + 6 * (n % 4))) = _; rw [e]) ?_; show ([.int 0, .int 0, .int 0, .int 0, .int 0, .int 0, .int 0, .int 0, .int 0, .int 0, .int 0, .ref (adP ad b 19 (2 * n)), .ref (adP ad b 19 (2 * n + 1)), .ref (adP ad b 21 n)] : List Value) = _; rw [ad19a, ad19b, ad21, e])
set_option maxHeartbeats 8000000 in
set_option maxRecDepth 100000 in
theorem pk_19 {D : va_G} {ad : Nat → Nat → Nat} {ty : Nat → ClassId} {b : Nat} {H : Heap} (hP : va_P D vwCl (tp b (peE ad ty b 10 10)) H) {n : Nat} (hn : n < 104) : va_at D vwCl (adP ad b 19 n, cellK (kdL 0) (adP ad b) ty mu0 19 n) H := by
  have g := pg_mac (ad := ad) (ty := ty) (b := b) (i := n / 8) (q := 7 + 6 * (n / 2 % 4) + (1 + 2 * (n % 2))) (by omega) (by omega)
  rcases (show n / 2 % 4 = 0 ∨ n / 2 % 4 = 1 ∨ n / 2 % 4 = 2 ∨ n / 2 % 4 = 3 by omega) with e | e | e | e <;> rcases (show n % 2 = 0 ∨ n % 2 = 1 by omega) with e2 | e2 <;> (rw [e, e2] at g; have h := hP _ _ (tp_get g); refine at_obj h (kk19 0) (by show b + (mbs (n / 8) + (7 + 6 * (n / 2 % 4) + (1 + 2 * (n % 2)))) = _; rw [e, e2]) ?_; show ([.int 0, .int 0, .int 0, .ref (adP ad b 20 n)] : List Value) = _; rw [ad20, e, e2])
set_option maxHeartbeats 8000000 in
set_option maxRecDepth 100000 in
theorem pk_20 {D : va_G} {ad : Nat → Nat → Nat} {ty : Nat → ClassId} {b : Nat} {H : Heap} (hP : va_P D vwCl (tp b (peE ad ty b 10 10)) H) {n : Nat} (hn : n < 104) : va_at D vwCl (adP ad b 20 n, cellK (kdL 0) (adP ad b) ty mu0 20 n) H := by
  have g := pg_mac (ad := ad) (ty := ty) (b := b) (i := n / 8) (q := 7 + 6 * (n / 2 % 4) + (2 + 2 * (n % 2))) (by omega) (by omega)
  rcases (show n / 2 % 4 = 0 ∨ n / 2 % 4 = 1 ∨ n / 2 % 4 = 2 ∨ n / 2 % 4 = 3 by omega) with e | e | e | e <;> rcases (show n % 2 = 0 ∨ n % 2 = 1 by omega) with e2 | e2 <;> (rw [e, e2] at g; have h := hP _ _ (tp_get g); exact at_arrI h (kk20 0) (by show b + (mbs (n / 8) + (7 + 6 * (n / 2 % 4) + (2 + 2 * (n % 2)))) = _; rw [e, e2]) rfl (fun _ _ => rfl))
set_option maxHeartbeats 8000000 in
set_option maxRecDepth 100000 in
theorem pk_21 {D : va_G} {ad : Nat → Nat → Nat} {ty : Nat → ClassId} {b : Nat} {H : Heap} (hP : va_P D vwCl (tp b (peE ad ty b 10 10)) H) {n : Nat} (hn : n < 52) : va_at D vwCl (adP ad b 21 n, cellK (kdL 0) (adP ad b) ty mu0 21 n) H := by
  have g := pg_mac (ad := ad) (ty := ty) (b := b) (i := n / 4) (q := 7 + 6 * (n % 4) + 5) (by omega) (by omega)
  rcases (show n % 4 = 0 ∨ n % 4 = 1 ∨ n % 4 = 2 ∨ n % 4 = 3 by omega) with e | e | e | e <;> (rw [e] at g; have h := hP _ _ (tp_get g); exact at_arrI h (kk21 0) (by show b + (mbs (n / 4) + (7 + 6 * (n % 4) + 5)) = _; rw [e]) rfl (fun _ _ => rfl))
theorem pk_22 {D : va_G} {ad : Nat → Nat → Nat} {ty : Nat → ClassId} {b : Nat} {H : Heap} (hP : va_P D vwCl (tp b (peE ad ty b 10 10)) H) : va_at D vwCl (adP ad b 22 0, cellK (kdL 0) (adP ad b) ty mu0 22 0) H := by
  have h := hP _ _ (tp_get (pg_sim (q := 0) (by decide)))
  exact at_obj h (kk22 0) rfl rfl
theorem pk_23 {D : va_G} {ad : Nat → Nat → Nat} {ty : Nat → ClassId} {b : Nat} {H : Heap} (hP : va_P D vwCl (tp b (peE ad ty b 10 10)) H) : va_at D vwCl (adP ad b 23 0, cellK (kdL 0) (adP ad b) ty mu0 23 0) H := by
  have h := hP _ _ (tp_get (pg_qrd (q := 0) (by decide)))
  exact at_obj h (kk23 0) rfl rfl
theorem pk_24 {D : va_G} {ad : Nat → Nat → Nat} {ty : Nat → ClassId} {b : Nat} {H : Heap} (hP : va_P D vwCl (tp b (peE ad ty b 10 10)) H) {n : Nat} (hn : n < 2) : va_at D vwCl (adP ad b 24 n, cellK (kdL 0) (adP ad b) ty mu0 24 n) H := by
  rcases (show n = 0 ∨ n = 1 by omega) with rfl | rfl
  · have h := hP _ _ (tp_get (pg_qrd (q := 1) (by decide)))
    exact at_arrI h (kk24 0) rfl rfl (fun _ _ => rfl)
  · have h := hP _ _ (tp_get (pg_qrd (q := 2) (by decide)))
    exact at_arrI h (kk24 0) rfl rfl (fun _ _ => rfl)
theorem pk_25 {D : va_G} {ad : Nat → Nat → Nat} {ty : Nat → ClassId} {b : Nat} {H : Heap} (hP : va_P D vwCl (tp b (peE ad ty b 10 10)) H) : va_at D vwCl (adP ad b 25 0, cellK (kdL 0) (adP ad b) ty mu0 25 0) H := by
  have h := hP _ _ (tp_get ((mid_get peP_len)))
  exact at_arrQ h (kk25 0) rfl rfl (fun k hk => (if_pos hk).trans (congrArg some (by show b + (190 + 31 * k) = b + mbs (3 + k); unfold mbs; rw [if_neg (by omega), if_neg (by omega), if_neg (by omega), Nat.add_sub_cancel_left])))
theorem pk_32 {D : va_G} {ad : Nat → Nat → Nat} {ty : Nat → ClassId} {b : Nat} {H : Heap} (hP : va_P D vwCl (tp b (peE ad ty b 10 10)) H) : va_at D vwCl (adP ad b 32 0, cellK (kdL 0) (adP ad b) ty mu0 32 0) H := by
  have h := hP _ _ (tp_get (pg_sb (q := 0) (by decide)))
  exact at_obj h (kk32 0) rfl rfl
theorem pk_33 {D : va_G} {ad : Nat → Nat → Nat} {ty : Nat → ClassId} {b : Nat} {H : Heap} (hP : va_P D vwCl (tp b (peE ad ty b 10 10)) H) : va_at D vwCl (adP ad b 33 0, cellK (kdL 0) (adP ad b) ty mu0 33 0) H := by
  have h := hP _ _ (tp_get (pg_sb (q := 1) (by decide)))
  exact at_arrI h (kk33 0) rfl rfl (fun _ _ => rfl)
