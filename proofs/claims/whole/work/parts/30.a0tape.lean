/-! THE CONSTRUCTORS: new cells lie side by side, from an address b on: a tape -/
def tp (b : Nat) (es : List va_E) : va_W := es.mapIdx (fun k e => (b + k, e))
theorem tp_get {b k : Nat} {es : List va_E} {e : va_E} (h : es[k]? = some e) : (tp b es)[k]? = some (b + k, e) := by
  unfold tp
  rw [List.getElem?_mapIdx, h]; rfl
theorem tp_inv {b k : Nat} {es : List va_E} {q : Nat × va_E} (h : (tp b es)[k]? = some q) : ∃ e, es[k]? = some e ∧ q = (b + k, e) := by
  unfold tp at h
  rw [List.getElem?_mapIdx] at h
  cases hc : es[k]? with
  | none => rw [hc] at h; cases h
  | some e => rw [hc] at h; cases h; exact ⟨e, rfl, rfl⟩
theorem tp_set {b j : Nat} {es : List va_E} {e : va_E} : (tp b es).set j (b + j, e) = tp b (es.set j e) := by
  refine List.ext_getElem? fun i => ?_
  unfold tp
  rw [List.getElem?_set, List.getElem?_mapIdx, List.getElem?_mapIdx, List.length_mapIdx, List.getElem?_set]
  by_cases h : j = i
  · subst h
    rw [if_pos rfl, if_pos rfl]
    split <;> rfl
  · rw [if_neg h, if_neg h]
theorem tp_D {A : Nat → Prop} {b : Nat} {es : List va_E} (hA : ∀ q, b ≤ q → A q) : va_D A (tp b es) := by
  refine ⟨fun i j p q h1 h2 h => ?_, fun k q h => ?_⟩
  · obtain ⟨e1, _, rfl⟩ := tp_inv h1
    obtain ⟨e2, _, rfl⟩ := tp_inv h2
    exact Nat.add_left_cancel h
  · obtain ⟨e, _, rfl⟩ := tp_inv h
    exact hA _ (Nat.le_add_right _ _)
theorem tp_app {D : va_G} {cl : List vw_C} {b j : Nat} {H : Heap} {es fs : List va_E} (hj : es.length = j) (h : va_P D cl (tp b (es ++ fs)) H) : va_P D cl (tp (b + j) fs) H := by
  intro k q hq
  obtain ⟨e, h1, rfl⟩ := tp_inv hq
  have h2 := h (j + k) (b + (j + k), e) (tp_get (by rw [List.getElem?_append_right (by omega), hj, show j + k - j = k by omega]; exact h1))
  rw [show b + j + k = b + (j + k) by omega]
  exact h2
theorem tp_join {D : va_G} {cl : List vw_C} {b j : Nat} {H H1 : Heap} {es fs fs' : List va_E} (hj : es.length = j) (h : va_P D cl (tp b (es ++ fs)) H) (hk : ∀ q : Nat, q < b + j → H1[q]? = H[q]?) (h1 : va_P D cl (tp (b + j) fs') H1) : va_P D cl (tp b (es ++ fs')) H1 := by
  intro k q hq
  obtain ⟨e, h2, rfl⟩ := tp_inv hq
  by_cases hlt : k < j
  · rw [List.getElem?_append_left (by omega)] at h2
    exact (h k (b + k, e) (tp_get (by rw [List.getElem?_append_left (by omega)]; exact h2))).kept (hk _ (show b + k < b + j by omega))
  · rw [List.getElem?_append_right (by omega), hj] at h2
    have h3 := h1 (k - j) (b + j + (k - j), e) (tp_get h2)
    rw [show b + j + (k - j) = b + k by omega] at h3
    exact h3
theorem tp_push {D : va_G} {cl : List vw_C} {b : Nat} {H H1 : Heap} {es : List va_E} {e : va_E} (hz : H.size = b + es.length) (h : va_P D cl (tp b es) H) (hk : ∀ q : Nat, q < H.size → H1[q]? = H[q]?) (h1 : va_at D cl (H.size, e) H1) : va_P D cl (tp b (es ++ [e])) H1 := by
  intro k q hq
  obtain ⟨e2, h2, rfl⟩ := tp_inv hq
  by_cases hlt : k < es.length
  · rw [List.getElem?_append_left hlt] at h2
    exact (h k (b + k, e2) (tp_get h2)).kept (hk _ (show b + k < H.size by omega))
  · rw [List.getElem?_append_right (by omega)] at h2
    have h3 : k - es.length < 1 := (List.getElem?_eq_some_iff.mp h2).1
    rw [show k - es.length = 0 by omega] at h2
    cases h2
    rw [show b + k = H.size by omega]
    exact h1
/-- the classes of which arrays are made -/
def aoL : List String := ["PinEngines$Engine", "PinEngines$Instruction", "PinEngines$Machine", "PinEngines$Setup", "PinEngines$Symbol", "java/lang/String"]
abbrev fromB (b : Nat) : Nat → Prop := fun q => b ≤ q
def KTP (D : va_G) (ad : Nat → Nat → Nat) (ty : Nat → ClassId) (b : Nat) (es : List va_E) (av : List Value) : Array Value → State → Prop := fun v U => v = av.toArray ∧ U.heap.size = b + es.length ∧ va_P D vwCl (tp b es) U.heap ∧ va_K D vwCl (tys ty) U ∧ Cst ad (fromB b) U U.heap ∧ ∀ C ∈ aoL, va_AO C U
def KTQ (D : va_G) (b : Nat) (es : List va_E) : Array Value → State → Outcome → State → Prop := fun _ st oc t => oc = .returned none ∧ t.heap.size = b + es.length ∧ va_P D vwCl (tp b es) t.heap ∧ va_F (fromB b) st t
/-- the contract of a method that works on a tape -/
def MTm (l : Launch) (y : MethodName) (cc : ByteArray) (mL fr lo mc ms : Nat) (D : va_G) (ad : Nat → Nat → Nat) (ty : Nat → ClassId) (b : Nat) (es : List va_E) (av : List Value) (es' : List va_E) : Prop :=
  Met l y (wm y cc mL none) (rm4 fr lo mc ms) (KTP D ad ty b es av) (KTQ D b es') mc ms (fromB b)
def T1 : CX → Nat → Nat → Nat → List va_E → Nat → List (Nat × Value) → List Value → Prop
  | (p, l, e, R, s, m, args, below, meth, c, D, ad, ty, A, Q, nL, vv), ca, sl, b, es, pc, L, st => ∀ (H : Heap) (locs : List Loc) (ls : Array Slot), va_P D vwCl (tp b es) H → H.size = b + es.length → va_S A s.heap H locs → lv_has ls nL L → W p l e R s m args below meth c H locs ca sl Q (F0 m pc ls st)
def OT : CX → String → ByteArray → Nat → Prop
  | (p, l, e, R, s, m, args, below, meth, c, D, ad, ty, A, Q, nL, vv), own, cc, b => p.tables.exec = Jvm.exec ∧ c.code = cc ∧ c.maxLocals = nL ∧ s.vm.findClass own = some m.cls ∧ (∀ w ∈ tb, w.before args s = true) ∧ va_K D vwCl (tys ty) s ∧ (∀ q : Nat, b ≤ q → A q) ∧ b ≤ s.heap.size ∧ meth.locks = false ∧ Cst ad A s s.heap ∧ ∀ C ∈ aoL, va_AO C s
def Ini : CX → Prop
  | (p, l, e, R, s, m, args, below, meth, c, D, ad, ty, A, Q, nL, vv) => meth.name = "<init>"
def FT0 (D0 : va_G) (b : Nat) (es' : List va_E) : CX → Nat → Nat → Nat → Nat → Prop
  | (p, l, e, R, s, m, args, below, meth, c, D, ad, ty, A, Q, nL, vv), fr, lo, mc, ms => D = D0 ∧ meth.sig.returnType = none ∧ R = rm4 fr lo mc ms ∧ Q = MQ below (KTQ D0 b es') args s mc ms A ∧ A = fromB b
def xt : CX → Nat → ClassId | (_, _, _, _, _, _, _, _, _, _, _, _, ty, _, _, _, _) => ty
theorem mt_of {l : Launch} {y : MethodName} {cc : ByteArray} {mL fr lo mc ms : Nat} {D : va_G} {ad : Nat → Nat → Nat} {ty : Nat → ClassId} {b : Nat} {es : List va_E} {av : List Value} {es' : List va_E} (hb0 : 0 < es.length ∨ True) (hy : plainName y.cls = true) (hlen : (lg_sl av).length ≤ mL)
    (body : ∀ X : CX, xl X = l → xn X = mL → xa X = ad → xt X = ty → (y.name = "<init>" → Ini X) → OT X y.cls cc b → FT0 D b es' X fr lo mc ms → T1 X 0 0 b es 0 (lv_args 0 av) []) : MTm l y cc mL fr lo mc ms D ad ty b es av es' := by
  refine Met.ofW (cc := cc) (maxL := mL) (ret := none) hy rfl ?_
  intro p e s m args below meth c s₁ B hml hv
  obtain ⟨rfl, hsz, hP, hK, hZ, hO⟩ := hv
  have hts := atoms_spec (ws := wm y cc mL none) B.pre
  have h1 := body (p, l, e, (headSpec (wm y cc mL none) (rm4 fr lo mc ms)).room, s, m, av.toArray, below, meth, c, D, ad, ty, fromB b, MQ below (KTQ D b es') av.toArray s mc ms (fromB b), mL, 0) rfl rfl rfl rfl (fun hn => (name_of_methodNamed B.named B.method).1.trans hn)
    ⟨B.exec, B.bytes, hml, findClass_of_methodNamed B.named, fun w hw => hts w (List.mem_cons_of_mem _ hw), hK, fun q h => h, by omega, B.notSynchronized, hZ, hO⟩ ⟨rfl, B.returns, rfl, rfl, rfl⟩ s.heap [] _ hP hsz va_S.rf (lv_entry av hlen)
  rw [lg_entry_eq]
  exact h1
section TapeSteps
variable {X : CX} {own : String} {cc : ByteArray} {ca sl b : Nat} {es es' : List va_E} {pc : Nat} {L L' : List (Nat × Value)} {st st' : List Value} {fr lo mc ms : Nat}
theorem t_eq (h : es = es') (k : T1 X ca sl b es' pc L st) : T1 X ca sl b es pc L st := by subst h; exact k
theorem t_st (h : st = st') (k : T1 X ca sl b es pc L st') : T1 X ca sl b es pc L st := by subst h; exact k
theorem t_L (h : L = L') (k : T1 X ca sl b es pc L' st) : T1 X ca sl b es pc L st := by subst h; exact k
theorem t_wid {ca1 sl1 : Nat} (h1 : ca ≤ ca1) (h2 : sl ≤ sl1) (k : T1 X ca1 sl1 b es pc L st) : T1 X ca sl b es pc L st := by
  obtain ⟨p, l, e, R, s, m, args, below, meth, c, D, ad, ty, A, Q, nL, vv⟩ := X
  intro H locs ls hP hz hS hl
  exact W.widen h1 h2 (k H locs ls hP hz hS hl)
theorem t_vret {D0 : va_G} (C : OT X own cc b) (E : FT0 D0 b es X fr lo mc ms) (h1 : ca ≤ mc) (h2 : sl ≤ ms) (hd : decode cc pc = .ok (.return_, 1)) : T1 X ca sl b es pc L [] := by
  obtain ⟨p, l, e, R, s, m, args, below, meth, c, D, ad, ty, A, Q, nL, vv⟩ := X
  obtain ⟨hx, hb, hml, hown, hts, hK, hA, hbs, hlk, hZ, hO⟩ := C
  obtain ⟨rfl, hr, hR, hQ, rfl⟩ := E
  intro H locs ls hP hz hS hl
  rw [hQ]
  exact W.widen h1 h2 (W.vret hx hb hr (fun t ht hW => ⟨rfl, by rw [ht]; exact hz, by rw [ht]; exact hP, hS.F ht⟩) hS.2.2 hd)
theorem t_iconst (C : OT X own cc b) {n : Int} {v : Int32} (hd : decode cc pc = .ok (.iconst n, 1)) (hv : Int32.ofInt n = v) (k : T1 X ca sl b es (pc + 1) L (.int v :: st)) : T1 X ca sl b es pc L st := by
  obtain ⟨p, l, e, R, s, m, args, below, meth, c, D, ad, ty, A, Q, nL, vv⟩ := X
  intro H locs ls hP hz hS hl
  exact lv_iconst C.1 C.2.1 hd hv (k H locs ls hP hz hS hl)
theorem t_bipush (C : OT X own cc b) {n : Int} {v : Int32} (hd : decode cc pc = .ok (.bipush n, 2)) (hv : (Int8.ofInt n).toInt32 = v) (k : T1 X ca sl b es (pc + 2) L (.int v :: st)) : T1 X ca sl b es pc L st := by
  obtain ⟨p, l, e, R, s, m, args, below, meth, c, D, ad, ty, A, Q, nL, vv⟩ := X
  intro H locs ls hP hz hS hl
  exact lv_bipush C.1 C.2.1 hd hv (k H locs ls hP hz hS hl)
theorem t_sipush (C : OT X own cc b) {n : Int} {v : Int32} (hd : decode cc pc = .ok (.sipush n, 3)) (hv : (Int16.ofInt n).toInt32 = v) (k : T1 X ca sl b es (pc + 3) L (.int v :: st)) : T1 X ca sl b es pc L st := by
  obtain ⟨p, l, e, R, s, m, args, below, meth, c, D, ad, ty, A, Q, nL, vv⟩ := X
  intro H locs ls hP hz hS hl
  exact lv_sipush C.1 C.2.1 hd hv (k H locs ls hP hz hS hl)
theorem t_iload_n (C : OT X own cc b) {q : Fin 4} {i : Nat} {x : Int32} (hd : decode cc pc = .ok (.iload_n q, 1)) (hi : (q : Nat) = i) (j : Nat) (hj : L[j]? = some (i, .int x)) (k : T1 X ca sl b es (pc + 1) L (.int x :: st)) : T1 X ca sl b es pc L st := by
  obtain ⟨p, l, e, R, s, m, args, below, meth, c, D, ad, ty, A, Q, nL, vv⟩ := X
  intro H locs ls hP hz hS hl
  exact lv_iload_n C.1 C.2.1 hd hi (lv_at hl j hj) (k H locs ls hP hz hS hl)
theorem t_aload_n (C : OT X own cc b) {q : Fin 4} {i : Nat} {x : Nat} (hd : decode cc pc = .ok (.aload_n q, 1)) (hi : (q : Nat) = i) (j : Nat) (hj : L[j]? = some (i, .ref x)) (k : T1 X ca sl b es (pc + 1) L (.ref x :: st)) : T1 X ca sl b es pc L st := by
  obtain ⟨p, l, e, R, s, m, args, below, meth, c, D, ad, ty, A, Q, nL, vv⟩ := X
  intro H locs ls hP hz hS hl
  exact lv_aload_n C.1 C.2.1 hd hi (lv_at hl j hj) (k H locs ls hP hz hS hl)
theorem t_istore_n (C : OT X own cc b) {q : Fin 4} {i : Nat} {x : Int32} (hd : decode cc pc = .ok (.istore_n q, 1)) (hi : (q : Nat) = i) (hn : i < xn X) (hL : (i, Value.int x) :: L.filter (fun q => !(q.1 == i) && !(q.1 + 1 == i && q.2.category == 2)) = L') (k : T1 X ca sl b es (pc + 1) L' st) : T1 X ca sl b es pc L (.int x :: st) := by
  obtain ⟨p, l, e, R, s, m, args, below, meth, c, D, ad, ty, A, Q, nL, vv⟩ := X
  intro H locs ls hP hz hS hl
  exact lv_istore_n C.1 C.2.1 hd hi hl hn hL (fun ls' hl' => k H locs ls' hP hz hS hl')
theorem t_iinc (C : OT X own cc b) {i j : Nat} {n : Int} {x v : Int32} (hd : decode cc pc = .ok (.iinc i n, 3)) (hj : L[j]? = some (i, .int x)) (hv : x + Int32.ofInt n = v) (hn : i < xn X) (hL : (i, Value.int v) :: L.filter (fun q => !(q.1 == i) && !(q.1 + 1 == i && q.2.category == 2)) = L') (k : T1 X ca sl b es (pc + 3) L' st) : T1 X ca sl b es pc L st := by
  obtain ⟨p, l, e, R, s, m, args, below, meth, c, D, ad, ty, A, Q, nL, vv⟩ := X
  intro H locs ls hP hz hS hl
  exact lv_iinc C.1 C.2.1 hd hl hj hv hn hL (fun ls' hl' => k H locs ls' hP hz hS hl')
theorem t_dup (C : OT X own cc b) {v : Value} (hd : decode cc pc = .ok (.dup, 1)) (hv : v.category = 1) (k : T1 X ca sl b es (pc + 1) L (v :: v :: st)) : T1 X ca sl b es pc L (v :: st) := by
  obtain ⟨p, l, e, R, s, m, args, below, meth, c, D, ad, ty, A, Q, nL, vv⟩ := X
  intro H locs ls hP hz hS hl
  exact lv_dup C.1 C.2.1 hd hv (k H locs ls hP hz hS hl)
theorem t_goto (C : OT X own cc b) {off : Int} {tgt : Nat} (hd : decode cc pc = .ok (.goto off, 3)) (ht : (pc : Int) + off = (tgt : Int)) (k : T1 X ca sl b es tgt L st) : T1 X ca sl b es pc L st := by
  obtain ⟨p, l, e, R, s, m, args, below, meth, c, D, ad, ty, A, Q, nL, vv⟩ := X
  intro H locs ls hP hz hS hl
  exact lv_goto C.1 C.2.1 hd ht (k H locs ls hP hz hS hl)
theorem t_icmp_ge (C : OT X own cc b) {x y : Int32} {off : Int} {tgt : Nat} (hd : decode cc pc = .ok (.if_icmp .ge off, 3)) (ht : (pc : Int) + off = (tgt : Int)) (k1 : y ≤ x → T1 X ca sl b es tgt L st) (k2 : ¬ (y ≤ x) → T1 X ca sl b es (pc + 3) L st) : T1 X ca sl b es pc L (.int y :: .int x :: st) := by
  obtain ⟨p, l, e, R, s, m, args, below, meth, c, D, ad, ty, A, Q, nL, vv⟩ := X
  intro H locs ls hP hz hS hl
  refine lv_icmp_ge C.1 C.2.1 hd ht (fun q => ?_) (fun q => ?_)
  · exact k1 (by first | exact q | simpa using q) H locs ls hP hz hS hl
  · exact k2 (by first | exact q | simpa using q) H locs ls hP hz hS hl
theorem t_icmp_gt (C : OT X own cc b) {x y : Int32} {off : Int} {tgt : Nat} (hd : decode cc pc = .ok (.if_icmp .gt off, 3)) (ht : (pc : Int) + off = (tgt : Int)) (k1 : y < x → T1 X ca sl b es tgt L st) (k2 : ¬ (y < x) → T1 X ca sl b es (pc + 3) L st) : T1 X ca sl b es pc L (.int y :: .int x :: st) := by
  obtain ⟨p, l, e, R, s, m, args, below, meth, c, D, ad, ty, A, Q, nL, vv⟩ := X
  intro H locs ls hP hz hS hl
  refine lv_icmp_gt C.1 C.2.1 hd ht (fun q => ?_) (fun q => ?_)
  · exact k1 (by first | exact q | simpa using q) H locs ls hP hz hS hl
  · exact k2 (by first | exact q | simpa using q) H locs ls hP hz hS hl
theorem t_if_eq (C : OT X own cc b) {x : Int32} {off : Int} {tgt : Nat} (hd : decode cc pc = .ok (.ifCond .eq off, 3)) (ht : (pc : Int) + off = (tgt : Int)) (k1 : x = 0 → T1 X ca sl b es tgt L st) (k2 : ¬ (x = 0) → T1 X ca sl b es (pc + 3) L st) : T1 X ca sl b es pc L (.int x :: st) := by
  obtain ⟨p, l, e, R, s, m, args, below, meth, c, D, ad, ty, A, Q, nL, vv⟩ := X
  intro H locs ls hP hz hS hl
  refine lv_if_eq C.1 C.2.1 hd ht (fun q => ?_) (fun q => ?_)
  · exact k1 (by first | exact q | simpa using q) H locs ls hP hz hS hl
  · exact k2 (by first | exact q | simpa using q) H locs ls hP hz hS hl
theorem t_gsym (C : OT X own cc b) {ix i : Nat} {nmS : String} (hi : i < 74) (hn : syN.getD i "" = nmS) (hw : Cond.fieldLink own ix "PinEngines$Symbol" nmS "LPinEngines$Symbol;" ∈ tb) (hd : decode cc pc = .ok (.getstatic ix, 3)) (k : T1 X ca sl b es (pc + 3) L (.ref (xa X 50 i) :: st)) : T1 X ca sl b es pc L st := by
  obtain ⟨p, l, e, R, s, m, args, below, meth, c, D, ad, ty, A, Q, nL, vv⟩ := X
  obtain ⟨hx, hb, hml, hown, hts, hK, hA, hbs, hlk, hZ, hO⟩ := C
  intro H locs ls hP hz hS hl
  subst hn
  exact va_gets hx hb (hZ.1.1 i hi).1 hS hown (hts _ hw) (fun _ h9 => h9) hd (k H locs ls hP hz hS hl)
theorem t_gcs (C : OT X own cc b) {ix : Nat} (hw : Cond.fieldLink own ix "java/lang/String" "COMPACT_STRINGS" "Z" ∈ tb) (hd : decode cc pc = .ok (.getstatic ix, 3)) (k : T1 X ca sl b es (pc + 3) L (.int 1 :: st)) : T1 X ca sl b es pc L st := by
  obtain ⟨p, l, e, R, s, m, args, below, meth, c, D, ad, ty, A, Q, nL, vv⟩ := X
  obtain ⟨hx, hb, hml, hown, hts, hK, hA, hbs, hlk, hZ, hO⟩ := C
  intro H locs ls hP hz hS hl
  exact va_gets hx hb hZ.2.2.2.2.2.2.1 hS hown (hts _ hw) (fun _ h9 => h9) hd (k H locs ls hP hz hS hl)
theorem t_ldcs (C : OT X "PinEnginesModel" cc b) {ix i : Nat} {tx : String} (hw : (ix, tx, i) ∈ txR) (hd : decode cc pc = .ok (.ldc ix, 2)) (k : T1 X ca sl b es (pc + 2) L (.ref (xa X 51 i) :: st)) : T1 X ca sl b es pc L st := by
  obtain ⟨p, l, e, R, s, m, args, below, meth, c, D, ad, ty, A, Q, nL, vv⟩ := X
  obtain ⟨hx, hb, hml, hown, hts, hK, hA, hbs, hlk, hZ, hO⟩ := C
  intro H locs ls hP hz hS hl
  exact va_ldcS hx hb hown (hZ.2.2.2.2.2.2.2.2.2.2.1 _ hw) hd (k H locs ls hP hz hS hl)
/-- Object.<init> -/
theorem t_obj {R0 : CX → Prop} (C : OT X own cc b) (hR : Rm X fr lo mc ms) {ix a : Nat} (h1 : Cond.methodLink own ix Lib.objectInit ∈ tb) (h2 : Cond.instanceMethod Lib.objectInit ∈ tb) (h3 : Cond.code Lib.objectInit ⟨#[0xb1]⟩ 1 none ∈ tb) (hr : 1 ≤ fr ∧ (st.map fun v => v.category).sum + 12 ≤ lo) (hd : decode cc pc = .ok (.invokespecial ix, 3)) (k : T1 X ca sl b es (pc + 3) L st) : T1 X ca sl b es pc L (.ref a :: st) := by
  obtain ⟨p, l, e, R, s, m, args, below, meth, c, D, ad, ty, A, Q, nL, vv⟩ := X
  obtain ⟨hx, hb, hml, hown, hts, hK, hA, hbs, hlk, hZ, hO⟩ := C
  have hRX : R = rm4 fr lo mc ms := hR
  subst hRX
  intro H locs ls hP hz hS hl
  refine W.objInit hx hb hown (hts _ h1) (hts _ h2) (hts _ h3) rfl (hl.1.trans hml.symm) rfl hd hr.1 ?_ ?_
  · exact Nat.le_trans (Nat.le_of_eq (by show 2 * 0 + _ + 12 = _ + 12; omega)) hr.2
  · exact W.eq rfl (k H locs ls hP hz hS hl)
end TapeSteps
