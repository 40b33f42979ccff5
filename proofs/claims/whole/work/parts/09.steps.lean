/-! THE STEPS. J: from every heap that holds the memory μ the machine comes to its end; G: the same, where the pure text o of what is left answers r0 -/
abbrev CX : Type := Program × Launch × Env × Room × State × MethodId × Array Value × List Frame × Method × Code × va_G × (Nat → Nat → Nat) × (Nat → ClassId) × (Nat → Prop) × (State → Prop) × Nat × Nat
def xa : CX → Nat → Nat → Nat | (_, _, _, _, _, _, _, _, _, _, _, ad, _, _, _, _, _) => ad
def xl : CX → Launch | (_, l, _, _, _, _, _, _, _, _, _, _, _, _, _, _, _) => l
def xn : CX → Nat | (_, _, _, _, _, _, _, _, _, _, _, _, _, _, _, nL, _) => nL
def xv : CX → Nat | (_, _, _, _, _, _, _, _, _, _, _, _, _, _, _, _, vv) => vv
def J : CX → Nat → Nat → Mem → Nat → List (Nat × Value) → List Value → Prop
  | (p, l, e, R, s, m, args, below, meth, c, D, ad, ty, A, Q, nL, vv), ca, sl, μ, pc, L, st => ∀ (H : Heap) (locs : List Loc) (ls : Array Slot), va_P D vwCl (wl vv ad ty μ) H → va_S A s.heap H locs → lv_has ls nL L → W p l e R s m args below meth c H locs ca sl Q (F0 m pc ls st)
def Ok : CX → String → ByteArray → Prop
  | (p, l, e, R, s, m, args, below, meth, c, D, ad, ty, A, Q, nL, vv), own, cc => p.tables.exec = Jvm.exec ∧ c.code = cc ∧ c.maxLocals = nL ∧ s.vm.findClass own = some m.cls ∧ (∀ w ∈ tb, w.before args s = true) ∧ va_K D vwCl (tys ty) s ∧ (∀ μ : Mem, va_D A (wl vv ad ty μ)) ∧ (∀ q : Nat, s.heap.size ≤ q → A q) ∧ meth.locks = false ∧ Cst ad A s s.heap
def G {α : Type} (X : CX) (r0 : α) (ca sl : Nat) (μ : Mem) (pc : Nat) (L : List (Nat × Value)) (st : List Value) (o : Option α) : Prop := o = some r0 → J X ca sl μ pc L st
/-- a contract's start and end -/
def KP (vv : Nat) (D : va_G) (ad : Nat → Nat → Nat) (ty : Nat → ClassId) (μ : Mem) (sz : Nat) (av : List Value) : Array Value → State → Prop := fun v U => v = av.toArray ∧ U.heap.size = sz ∧ va_P D vwCl (wl vv ad ty μ) U.heap ∧ va_K D vwCl (tys ty) U ∧ va_D (fun _ => True) (wl vv ad ty μ) ∧ Cst ad (va_A (wl vv ad ty μ) sz) U U.heap
def KQ (vv : Nat) (D : va_G) (ad : Nat → Nat → Nat) (ty : Nat → ClassId) (μ : Mem) (v : Option Value) (A : Nat → Prop) : Array Value → State → Outcome → State → Prop := fun _ st oc t => oc = .returned v ∧ va_P D vwCl (wl vv ad ty μ) t.heap ∧ va_F A st t
def rm4 (fr lo mc ms : Nat) : Room := { frames := fr, cells := mc, slots := ms, locals := lo }
/-- the method's end is its contract's -/
def Fen : CX → Option FieldType → Option Value → Mem → Nat → Nat → Nat → Nat → Prop
  | (p, l, e, R, s, m, args, below, meth, c, D, ad, ty, A, Q, nL, vv), rt, v, μ, fr, lo, mc, ms => meth.sig.returnType = rt ∧ R = rm4 fr lo mc ms ∧ Q = MQ below (KQ vv D ad ty μ v A) args s mc ms A
/-- the method's room -/
def Rm : CX → Nat → Nat → Nat → Nat → Prop
  | (p, l, e, R, s, m, args, below, meth, c, D, ad, ty, A, Q, nL, vv), fr, lo, mc, ms => R = rm4 fr lo mc ms
theorem fen_rm {X : CX} {rt : Option FieldType} {v : Option Value} {μ : Mem} {fr lo mc ms : Nat} (E : Fen X rt v μ fr lo mc ms) : Rm X fr lo mc ms := by
  obtain ⟨p, l, e, R, s, m, args, below, meth, c, D, ad, ty, A, Q, nL, vv⟩ := X
  exact E.2.1
/-- A METHOD'S CONTRACT: on every memory on which its pure text f answers, it returns that -/
def Kon {β : Type} (vm : Nat) (l : Launch) (y : MethodName) (cc : ByteArray) (mL : Nat) (rt : Option FieldType) (fr lo mc ms : Nat) (av : (Nat → Nat → Nat) → List Value) (rv : (Nat → Nat → Nat) → β → Option Value) (f : Mem → Option (β × Mem)) : Prop :=
  ∀ (vv : Nat) (_ : vm ≤ vv) (D : va_G) (ad : Nat → Nat → Nat) (ty : Nat → ClassId) (μ : Mem) (sz : Nat) (r : β × Mem), f μ = some r → Met l y (wm y cc mL rt) (rm4 fr lo mc ms) (KP vv D ad ty μ sz (av ad)) (KQ vv D ad ty r.2 (rv ad r.1) (va_A (wl vv ad ty μ) sz)) mc ms (va_A (wl vv ad ty μ) sz)
def rvI (_ : Nat → Nat → Nat) (r : Int32) : Option Value := some (.int r)
def rvJ (_ : Nat → Nat → Nat) (r : Int64) : Option Value := some (.long r)
def rvV (_ : Nat → Nat → Nat) (_ : Unit) : Option Value := none
def rvA (κ : Nat) (ad : Nat → Nat → Nat) (r : Nat) : Option Value := some (.ref (ad κ r))
/-! words of the pure texts -/
def nm {α β : Type} (e : α) (k : α → β) : β := k e
def bnd {α β : Type} (o : Option (β × Mem)) (k : β → Mem → Option α) : Option α := o.bind (fun q => k q.1 q.2)
/-- a place where roads meet -/
def jn {α : Type} {B : Type} (b : B) (k : B → Option α) : Option α := k b
/-- a loop: z when the fuel is out -/
def lp {B : Type} (z : B) : Nat → (B → B) → B
  | 0, _ => z
  | n + 1, b => b (lp z n b)
theorem g_lp {B : Type} {P : B → Prop} {z : B} {b : B → B} (h0 : P z) (hb : ∀ j : B, P j → P (b j)) : ∀ n : Nat, P (lp z n b)
  | 0 => h0
  | n + 1 => hb _ (g_lp h0 hb n)
def ckI {α : Type} (i : Int32) (n : Nat) (o : Option α) : Option α := if ¬ (i < 0 ∨ n ≤ i.toNatClampNeg) then o else none
def ckZ {α : Type} (v : Int32) (o : Option α) : Option α := if v = 0 ∨ v = 1 then o else none
def ckD {α : Type} (y : Int32) (o : Option α) : Option α := if ¬ y = 0 then o else none
def ckL {α : Type} (y : Int64) (o : Option α) : Option α := if ¬ y = 0 then o else none
def ckC {α : Type} (sp dp n : Int32) (n0 n1 : Nat) (o : Option α) : Option α := if ¬ sp < 0 ∧ ¬ dp < 0 ∧ ¬ n < 0 ∧ sp.toNatClampNeg + n.toNatClampNeg ≤ n0 ∧ dp.toNatClampNeg + n.toNatClampNeg ≤ n1 then o else none
/-- System.arraycopy -/
def wC (μ : Mem) (κ n : Nat) (sp : Int32) (κ' n' : Nat) (dp len : Int32) : Mem := (fun a b c => if a = κ' ∧ b = n' then va_cpy (μ.1 κ n) (μ.1 κ' n') sp.toNatClampNeg dp.toNatClampNeg len.toNatClampNeg c else μ.1 a b c, μ.2.1, μ.2.2)
theorem u_in {C : String} {T : u_T} {N : Nat} (h : ∀ k, k < N → u_lay C T k ∈ tb) : ∀ w ∈ u_ws C T N, w ∈ tb := fun w hw => by
  obtain ⟨k, hk, e⟩ := List.mem_map.mp hw
  rw [← e]
  exact h k (List.mem_range.mp hk)
theorem lk_out {ps : List (Int × Int)} {d k : Int} (h : ∀ q ∈ ps, q.1 ≠ k) : Op.lookupswitch.offset ps d k = d := by
  induction ps with
  | nil => rfl
  | cons q ps ih =>
    obtain ⟨a, b⟩ := q
    show (if a = k then b else Op.lookupswitch.offset ps d k) = d
    rw [if_neg (h (a, b) List.mem_cons_self)]
    exact ih (fun q hq => h q (List.mem_cons_of_mem _ hq))
theorem arr_setC {kinds : List KD} {ad : Nat → Nat → Nat} {ty : Nat → ClassId} {μ : Mem} (hnd : (cellsOf kinds).Nodup) {κ n κ' n' q0 cnt t : Nat} {sp dp ln : Int32} {len : (Nat → Nat) → Nat → Nat} (h : kinds[κ']? = some (cnt, .inr (t, len, none))) (hq : (cellsOf kinds)[q0]? = some (κ', n')) :
    (wlK kinds ad ty μ).set q0 (ad κ' n', .inl (ty t, len (μ.2.1 κ' n') n', .inl (va_cpy (μ.1 κ n) (μ.1 κ' n') sp.toNatClampNeg dp.toNatClampNeg ln.toNatClampNeg))) = wlK kinds ad ty (wC μ κ n sp κ' n' dp ln) := by
  rw [← wl_set (μ := μ) hnd (μ' := wC μ κ n sp κ' n' dp ln) hq (fun a b hab => ⟨by funext c; exact if_neg hab, rfl, rfl⟩)]
  congr 2
  rw [cellK, kd_getD h]
  show _ = Sum.inl (ty t, len (μ.2.1 κ' n') n', Sum.inl (fun c => if κ' = κ' ∧ n' = n' then va_cpy (μ.1 κ n) (μ.1 κ' n') sp.toNatClampNeg dp.toNatClampNeg ln.toNatClampNeg c else μ.1 κ' n' c))
  congr 4
  funext c
  rw [if_pos ⟨rfl, rfl⟩]
def ckB {α : Type} (i n : Nat) (o : Option α) : Option α := if i < n then o else none
theorem ine {x v : Int32} {i : Int} (hv : v.toInt = i) (h : ¬ x = v) : x.toInt ≠ i := fun e => h (Int32.toInt_inj.mp (by rw [e, hv]))
theorem va_A_eq {vv : Nat} {ad : Nat → Nat → Nat} {ty : Nat → ClassId} {μ μ' : Mem} {sz q : Nat} (h : va_A (wl vv ad ty μ) sz q) : va_A (wl vv ad ty μ') sz q := by
  rcases h with ⟨k, e, h⟩ | h
  · unfold wl wlK at h
    rw [List.getElem?_map] at h
    cases hc : (cellsOf (kdL vv))[k]? with
    | none => rw [hc] at h; cases h
    | some z =>
      rw [hc] at h
      have h1 := (Prod.mk.inj (Option.some.inj h)).1
      exact Or.inl ⟨k, _, by unfold wl wlK; rw [List.getElem?_map, hc]; exact congrArg (fun x => some (x, cellK (kdL vv) ad ty μ' z.1 z.2)) h1⟩
  · exact Or.inr h
section Steps
variable {X : CX} {own : String} {cc : ByteArray} {α : Type} {r0 : α} {ca sl : Nat} {μ : Mem} {pc : Nat} {L L' : List (Nat × Value)} {st : List Value} {o o1 o2 : Option α}
theorem g_none : G X r0 ca sl μ pc L st none := fun h => nomatch h
theorem g_nmI {e : Int32} {k : Int32 → Option α} (h : ∀ x : Int32, G X r0 ca sl μ pc L (.int x :: st) (k x)) : G X r0 ca sl μ pc L (.int e :: st) (nm e k) := h e
theorem g_nmJ {e : Int64} {k : Int64 → Option α} (h : ∀ x : Int64, G X r0 ca sl μ pc L (.long x :: st) (k x)) : G X r0 ca sl μ pc L (.long e :: st) (nm e k) := h e
theorem g_nmA {κ e : Nat} {k : Nat → Option α} (h : ∀ x : Nat, G X r0 ca sl μ pc L (.ref (xa X κ x) :: st) (k x)) : G X r0 ca sl μ pc L (.ref (xa X κ e) :: st) (nm e k) := h e
theorem g_nmQ {β : Type} {e : β} {k : β → Option α} (h : ∀ x : β, x = e → G X r0 ca sl μ pc L st (k x)) : G X r0 ca sl μ pc L st (nm e k) := h e rfl
theorem g_st {st' : List Value} (h : st = st') (k : G X r0 ca sl μ pc L st' o) : G X r0 ca sl μ pc L st o := by subst h; exact k
theorem g_nmM {k : Mem → Option α} (h : ∀ x : Mem, G X r0 ca sl x pc L st (k x)) : G X r0 ca sl μ pc L st (nm μ k) := h μ
theorem g_sub (ks : List Nat) (hs : lv_pick L ks = L') (k : G X r0 ca sl μ pc L' st o) : G X r0 ca sl μ pc L st o := by
  obtain ⟨p, l, e, R, s, m, args, below, meth, c, D, ad, ty, A, Q, nL, vv⟩ := X
  intro h H locs ls hP hS hl
  exact k h H locs ls hP hS (lv_sub hl ks hs)
theorem g_wid {ca1 sl1 : Nat} (h1 : ca ≤ ca1) (h2 : sl ≤ sl1) (k : G X r0 ca1 sl1 μ pc L st o) : G X r0 ca sl μ pc L st o := by
  obtain ⟨p, l, e, R, s, m, args, below, meth, c, D, ad, ty, A, Q, nL, vv⟩ := X
  intro h H locs ls hP hS hl
  exact W.widen h1 h2 (k h H locs ls hP hS hl)
theorem g_jn {B : Type} {P : B → Prop} {b : B} {k : B → Option α} (hb : P b) (hk : ∀ j : B, P j → G X r0 ca sl μ pc L st (k j)) : G X r0 ca sl μ pc L st (jn b k) := hk b hb
theorem g_jl {B : Type} {P : B → Prop} {z : B} {fu : Nat} {b : B → B} {k : B → Option α} (h0 : P z) (hb : ∀ j : B, P j → P (b j)) (hk : ∀ j : B, P j → G X r0 ca sl μ pc L st (k j)) : G X r0 ca sl μ pc L st (jn (lp z fu b) k) := hk _ (g_lp h0 hb fu)
theorem g_ckB {i n : Nat} (k : i < n → G X r0 ca sl μ pc L st o) : G X r0 ca sl μ pc L st (ckB i n o) := by
  intro h
  unfold ckB at h
  split at h
  · rename_i hi
    exact k hi h
  · cases h

theorem s_iconst (C : Ok X own cc) {n : Int} {v : Int32} (hd : decode cc pc = .ok (.iconst n, 1)) (hv : Int32.ofInt n = v) (k : G X r0 ca sl μ (pc + 1) L (.int v :: st) o) : G X r0 ca sl μ pc L (st) o := by
  obtain ⟨p, l, e, R, s, m, args, below, meth, c, D, ad, ty, A, Q, nL, vv⟩ := X
  obtain ⟨hx, hb, hml, hown, hts, hK, hD, hA, hlk, hZ⟩ := C
  intro h H locs ls hP hS hl
  exact lv_iconst hx hb hd hv (k h H locs ls hP hS hl)
theorem s_bipush (C : Ok X own cc) {n : Int} {v : Int32} (hd : decode cc pc = .ok (.bipush n, 2)) (hv : (Int8.ofInt n).toInt32 = v) (k : G X r0 ca sl μ (pc + 2) L (.int v :: st) o) : G X r0 ca sl μ pc L (st) o := by
  obtain ⟨p, l, e, R, s, m, args, below, meth, c, D, ad, ty, A, Q, nL, vv⟩ := X
  obtain ⟨hx, hb, hml, hown, hts, hK, hD, hA, hlk, hZ⟩ := C
  intro h H locs ls hP hS hl
  exact lv_bipush hx hb hd hv (k h H locs ls hP hS hl)
theorem s_sipush (C : Ok X own cc) {n : Int} {v : Int32} (hd : decode cc pc = .ok (.sipush n, 3)) (hv : (Int16.ofInt n).toInt32 = v) (k : G X r0 ca sl μ (pc + 3) L (.int v :: st) o) : G X r0 ca sl μ pc L (st) o := by
  obtain ⟨p, l, e, R, s, m, args, below, meth, c, D, ad, ty, A, Q, nL, vv⟩ := X
  obtain ⟨hx, hb, hml, hown, hts, hK, hD, hA, hlk, hZ⟩ := C
  intro h H locs ls hP hS hl
  exact lv_sipush hx hb hd hv (k h H locs ls hP hS hl)
theorem s_ldc (C : Ok X own cc) {ix : Nat} {v : Int32} (hw : Cond.constant own ix v ∈ tb) (hd : decode cc pc = .ok (.ldc ix, 2)) (k : G X r0 ca sl μ (pc + 2) L (.int v :: st) o) : G X r0 ca sl μ pc L (st) o := by
  obtain ⟨p, l, e, R, s, m, args, below, meth, c, D, ad, ty, A, Q, nL, vv⟩ := X
  obtain ⟨hx, hb, hml, hown, hts, hK, hD, hA, hlk, hZ⟩ := C
  intro h H locs ls hP hS hl
  exact lv_ldc hx hb hown (hts _ hw) hd (k h H locs ls hP hS hl)
theorem s_ldc2 (C : Ok X own cc) {ix : Nat} {v : Int64} (hw : Cond.constantLong own ix v ∈ tb) (hd : decode cc pc = .ok (.ldc2_w ix, 3)) (k : G X r0 ca sl μ (pc + 3) L (.long v :: st) o) : G X r0 ca sl μ pc L (st) o := by
  obtain ⟨p, l, e, R, s, m, args, below, meth, c, D, ad, ty, A, Q, nL, vv⟩ := X
  obtain ⟨hx, hb, hml, hown, hts, hK, hD, hA, hlk, hZ⟩ := C
  intro h H locs ls hP hS hl
  exact lv_ldc2 hx hb hown (hts _ hw) hd (k h H locs ls hP hS hl)
theorem s_lconst (C : Ok X own cc) {n : Fin 2} {v : Int64} (hd : decode cc pc = .ok (.lconst n, 1)) (hv : Int64.ofNat (n : Nat) = v) (k : G X r0 ca sl μ (pc + 1) L (.long v :: st) o) : G X r0 ca sl μ pc L (st) o := by
  obtain ⟨p, l, e, R, s, m, args, below, meth, c, D, ad, ty, A, Q, nL, vv⟩ := X
  obtain ⟨hx, hb, hml, hown, hts, hK, hD, hA, hlk, hZ⟩ := C
  intro h H locs ls hP hS hl
  exact lv_lconst hx hb hd hv (k h H locs ls hP hS hl)
theorem s_iload_n (C : Ok X own cc) {q : Fin 4} {i : Nat} {x : Int32} (hd : decode cc pc = .ok (.iload_n q, 1)) (hi : (q : Nat) = i) (j : Nat) (hj : L[j]? = some (i, .int x)) (k : G X r0 ca sl μ (pc + 1) L (.int x :: st) o) : G X r0 ca sl μ pc L (st) o := by
  obtain ⟨p, l, e, R, s, m, args, below, meth, c, D, ad, ty, A, Q, nL, vv⟩ := X
  obtain ⟨hx, hb, hml, hown, hts, hK, hD, hA, hlk, hZ⟩ := C
  intro h H locs ls hP hS hl
  exact lv_iload_n hx hb hd hi (lv_at hl j hj) (k h H locs ls hP hS hl)
theorem s_iload (C : Ok X own cc) {i : Nat} {x : Int32} (hd : decode cc pc = .ok (.iload i, 2)) (j : Nat) (hj : L[j]? = some (i, .int x)) (k : G X r0 ca sl μ (pc + 2) L (.int x :: st) o) : G X r0 ca sl μ pc L (st) o := by
  obtain ⟨p, l, e, R, s, m, args, below, meth, c, D, ad, ty, A, Q, nL, vv⟩ := X
  obtain ⟨hx, hb, hml, hown, hts, hK, hD, hA, hlk, hZ⟩ := C
  intro h H locs ls hP hS hl
  exact lv_iload hx hb hd (lv_at hl j hj) (k h H locs ls hP hS hl)
theorem s_lload_n (C : Ok X own cc) {q : Fin 4} {i : Nat} {x : Int64} (hd : decode cc pc = .ok (.lload_n q, 1)) (hi : (q : Nat) = i) (j : Nat) (hj : L[j]? = some (i, .long x)) (k : G X r0 ca sl μ (pc + 1) L (.long x :: st) o) : G X r0 ca sl μ pc L (st) o := by
  obtain ⟨p, l, e, R, s, m, args, below, meth, c, D, ad, ty, A, Q, nL, vv⟩ := X
  obtain ⟨hx, hb, hml, hown, hts, hK, hD, hA, hlk, hZ⟩ := C
  intro h H locs ls hP hS hl
  exact lv_lload_n hx hb hd hi (lv_at hl j hj) (k h H locs ls hP hS hl)
theorem s_lload (C : Ok X own cc) {i : Nat} {x : Int64} (hd : decode cc pc = .ok (.lload i, 2)) (j : Nat) (hj : L[j]? = some (i, .long x)) (k : G X r0 ca sl μ (pc + 2) L (.long x :: st) o) : G X r0 ca sl μ pc L (st) o := by
  obtain ⟨p, l, e, R, s, m, args, below, meth, c, D, ad, ty, A, Q, nL, vv⟩ := X
  obtain ⟨hx, hb, hml, hown, hts, hK, hD, hA, hlk, hZ⟩ := C
  intro h H locs ls hP hS hl
  exact lv_lload hx hb hd (lv_at hl j hj) (k h H locs ls hP hS hl)
theorem s_aload_n (C : Ok X own cc) {q : Fin 4} {i : Nat} {x : Nat} (hd : decode cc pc = .ok (.aload_n q, 1)) (hi : (q : Nat) = i) (j : Nat) (hj : L[j]? = some (i, .ref x)) (k : G X r0 ca sl μ (pc + 1) L (.ref x :: st) o) : G X r0 ca sl μ pc L (st) o := by
  obtain ⟨p, l, e, R, s, m, args, below, meth, c, D, ad, ty, A, Q, nL, vv⟩ := X
  obtain ⟨hx, hb, hml, hown, hts, hK, hD, hA, hlk, hZ⟩ := C
  intro h H locs ls hP hS hl
  exact lv_aload_n hx hb hd hi (lv_at hl j hj) (k h H locs ls hP hS hl)
theorem s_aload (C : Ok X own cc) {i : Nat} {x : Nat} (hd : decode cc pc = .ok (.aload i, 2)) (j : Nat) (hj : L[j]? = some (i, .ref x)) (k : G X r0 ca sl μ (pc + 2) L (.ref x :: st) o) : G X r0 ca sl μ pc L (st) o := by
  obtain ⟨p, l, e, R, s, m, args, below, meth, c, D, ad, ty, A, Q, nL, vv⟩ := X
  obtain ⟨hx, hb, hml, hown, hts, hK, hD, hA, hlk, hZ⟩ := C
  intro h H locs ls hP hS hl
  exact lv_aload hx hb hd (lv_at hl j hj) (k h H locs ls hP hS hl)
theorem s_istore_n (C : Ok X own cc) {q : Fin 4} {i : Nat} {x : Int32} (hd : decode cc pc = .ok (.istore_n q, 1)) (hi : (q : Nat) = i) (hn : i < xn X) (hL : (i, Value.int x) :: L.filter (fun q => !(q.1 == i) && !(q.1 + 1 == i && q.2.category == 2)) = L') (k : G X r0 ca sl μ (pc + 1) L' st o) : G X r0 ca sl μ pc L (.int x :: st) o := by
  obtain ⟨p, l, e, R, s, m, args, below, meth, c, D, ad, ty, A, Q, nL, vv⟩ := X
  obtain ⟨hx, hb, hml, hown, hts, hK, hD, hA, hlk, hZ⟩ := C
  intro h H locs ls hP hS hl
  exact lv_istore_n hx hb hd hi hl hn hL (fun ls' hl' => k h H locs ls' hP hS hl')
theorem s_istore (C : Ok X own cc) {i : Nat} {x : Int32} (hd : decode cc pc = .ok (.istore i, 2)) (hn : i < xn X) (hL : (i, Value.int x) :: L.filter (fun q => !(q.1 == i) && !(q.1 + 1 == i && q.2.category == 2)) = L') (k : G X r0 ca sl μ (pc + 2) L' st o) : G X r0 ca sl μ pc L (.int x :: st) o := by
  obtain ⟨p, l, e, R, s, m, args, below, meth, c, D, ad, ty, A, Q, nL, vv⟩ := X
  obtain ⟨hx, hb, hml, hown, hts, hK, hD, hA, hlk, hZ⟩ := C
  intro h H locs ls hP hS hl
  exact lv_istore hx hb hd hl hn hL (fun ls' hl' => k h H locs ls' hP hS hl')
theorem s_lstore_n (C : Ok X own cc) {q : Fin 4} {i : Nat} {x : Int64} (hd : decode cc pc = .ok (.lstore_n q, 1)) (hi : (q : Nat) = i) (hn : i + 1 < xn X) (hL : (i, Value.long x) :: L.filter (fun q => !(q.1 == i) && (!(q.1 == i + 1) && !(q.1 + 1 == i && q.2.category == 2))) = L') (k : G X r0 ca sl μ (pc + 1) L' st o) : G X r0 ca sl μ pc L (.long x :: st) o := by
  obtain ⟨p, l, e, R, s, m, args, below, meth, c, D, ad, ty, A, Q, nL, vv⟩ := X
  obtain ⟨hx, hb, hml, hown, hts, hK, hD, hA, hlk, hZ⟩ := C
  intro h H locs ls hP hS hl
  exact lv_lstore_n hx hb hd hi hl hn hL (fun ls' hl' => k h H locs ls' hP hS hl')
theorem s_lstore (C : Ok X own cc) {i : Nat} {x : Int64} (hd : decode cc pc = .ok (.lstore i, 2)) (hn : i + 1 < xn X) (hL : (i, Value.long x) :: L.filter (fun q => !(q.1 == i) && (!(q.1 == i + 1) && !(q.1 + 1 == i && q.2.category == 2))) = L') (k : G X r0 ca sl μ (pc + 2) L' st o) : G X r0 ca sl μ pc L (.long x :: st) o := by
  obtain ⟨p, l, e, R, s, m, args, below, meth, c, D, ad, ty, A, Q, nL, vv⟩ := X
  obtain ⟨hx, hb, hml, hown, hts, hK, hD, hA, hlk, hZ⟩ := C
  intro h H locs ls hP hS hl
  exact lv_lstore hx hb hd hl hn hL (fun ls' hl' => k h H locs ls' hP hS hl')
theorem s_astore_n (C : Ok X own cc) {q : Fin 4} {i : Nat} {x : Nat} (hd : decode cc pc = .ok (.astore_n q, 1)) (hi : (q : Nat) = i) (hn : i < xn X) (hL : (i, Value.ref x) :: L.filter (fun q => !(q.1 == i) && !(q.1 + 1 == i && q.2.category == 2)) = L') (k : G X r0 ca sl μ (pc + 1) L' st o) : G X r0 ca sl μ pc L (.ref x :: st) o := by
  obtain ⟨p, l, e, R, s, m, args, below, meth, c, D, ad, ty, A, Q, nL, vv⟩ := X
  obtain ⟨hx, hb, hml, hown, hts, hK, hD, hA, hlk, hZ⟩ := C
  intro h H locs ls hP hS hl
  exact lv_astore_n hx hb hd hi hl hn hL (fun ls' hl' => k h H locs ls' hP hS hl')
theorem s_astore (C : Ok X own cc) {i : Nat} {x : Nat} (hd : decode cc pc = .ok (.astore i, 2)) (hn : i < xn X) (hL : (i, Value.ref x) :: L.filter (fun q => !(q.1 == i) && !(q.1 + 1 == i && q.2.category == 2)) = L') (k : G X r0 ca sl μ (pc + 2) L' st o) : G X r0 ca sl μ pc L (.ref x :: st) o := by
  obtain ⟨p, l, e, R, s, m, args, below, meth, c, D, ad, ty, A, Q, nL, vv⟩ := X
  obtain ⟨hx, hb, hml, hown, hts, hK, hD, hA, hlk, hZ⟩ := C
  intro h H locs ls hP hS hl
  exact lv_astore hx hb hd hl hn hL (fun ls' hl' => k h H locs ls' hP hS hl')
theorem s_iinc (C : Ok X own cc) {i j : Nat} {n : Int} {x v : Int32} (hd : decode cc pc = .ok (.iinc i n, 3)) (hj : L[j]? = some (i, .int x)) (hv : x + Int32.ofInt n = v) (hn : i < xn X) (hL : (i, Value.int v) :: L.filter (fun q => !(q.1 == i) && !(q.1 + 1 == i && q.2.category == 2)) = L') (k : G X r0 ca sl μ (pc + 3) L' st o) : G X r0 ca sl μ pc L st o := by
  obtain ⟨p, l, e, R, s, m, args, below, meth, c, D, ad, ty, A, Q, nL, vv⟩ := X
  obtain ⟨hx, hb, hml, hown, hts, hK, hD, hA, hlk, hZ⟩ := C
  intro h H locs ls hP hS hl
  exact lv_iinc hx hb hd hl hj hv hn hL (fun ls' hl' => k h H locs ls' hP hS hl')
theorem s_iadd (C : Ok X own cc) {x y : Int32} (hd : decode cc pc = .ok (.iadd, 1)) (k : G X r0 ca sl μ (pc + 1) L (.int (x + y) :: st) o) : G X r0 ca sl μ pc L (.int y :: .int x :: st) o := by
  obtain ⟨p, l, e, R, s, m, args, below, meth, c, D, ad, ty, A, Q, nL, vv⟩ := X
  obtain ⟨hx, hb, hml, hown, hts, hK, hD, hA, hlk, hZ⟩ := C
  intro h H locs ls hP hS hl
  exact lv_iadd hx hb hd (k h H locs ls hP hS hl)
theorem s_isub (C : Ok X own cc) {x y : Int32} (hd : decode cc pc = .ok (.isub, 1)) (k : G X r0 ca sl μ (pc + 1) L (.int (x - y) :: st) o) : G X r0 ca sl μ pc L (.int y :: .int x :: st) o := by
  obtain ⟨p, l, e, R, s, m, args, below, meth, c, D, ad, ty, A, Q, nL, vv⟩ := X
  obtain ⟨hx, hb, hml, hown, hts, hK, hD, hA, hlk, hZ⟩ := C
  intro h H locs ls hP hS hl
  exact lv_isub hx hb hd (k h H locs ls hP hS hl)
theorem s_imul (C : Ok X own cc) {x y : Int32} (hd : decode cc pc = .ok (.imul, 1)) (k : G X r0 ca sl μ (pc + 1) L (.int (x * y) :: st) o) : G X r0 ca sl μ pc L (.int y :: .int x :: st) o := by
  obtain ⟨p, l, e, R, s, m, args, below, meth, c, D, ad, ty, A, Q, nL, vv⟩ := X
  obtain ⟨hx, hb, hml, hown, hts, hK, hD, hA, hlk, hZ⟩ := C
  intro h H locs ls hP hS hl
  exact lv_imul hx hb hd (k h H locs ls hP hS hl)
theorem s_iand (C : Ok X own cc) {x y : Int32} (hd : decode cc pc = .ok (.iand, 1)) (k : G X r0 ca sl μ (pc + 1) L (.int (x &&& y) :: st) o) : G X r0 ca sl μ pc L (.int y :: .int x :: st) o := by
  obtain ⟨p, l, e, R, s, m, args, below, meth, c, D, ad, ty, A, Q, nL, vv⟩ := X
  obtain ⟨hx, hb, hml, hown, hts, hK, hD, hA, hlk, hZ⟩ := C
  intro h H locs ls hP hS hl
  exact lv_iand hx hb hd (k h H locs ls hP hS hl)
theorem s_ior (C : Ok X own cc) {x y : Int32} (hd : decode cc pc = .ok (.ior, 1)) (k : G X r0 ca sl μ (pc + 1) L (.int (x ||| y) :: st) o) : G X r0 ca sl μ pc L (.int y :: .int x :: st) o := by
  obtain ⟨p, l, e, R, s, m, args, below, meth, c, D, ad, ty, A, Q, nL, vv⟩ := X
  obtain ⟨hx, hb, hml, hown, hts, hK, hD, hA, hlk, hZ⟩ := C
  intro h H locs ls hP hS hl
  exact lv_ior hx hb hd (k h H locs ls hP hS hl)
theorem s_ixor (C : Ok X own cc) {x y : Int32} (hd : decode cc pc = .ok (.ixor, 1)) (k : G X r0 ca sl μ (pc + 1) L (.int (x ^^^ y) :: st) o) : G X r0 ca sl μ pc L (.int y :: .int x :: st) o := by
  obtain ⟨p, l, e, R, s, m, args, below, meth, c, D, ad, ty, A, Q, nL, vv⟩ := X
  obtain ⟨hx, hb, hml, hown, hts, hK, hD, hA, hlk, hZ⟩ := C
  intro h H locs ls hP hS hl
  exact lv_ixor hx hb hd (k h H locs ls hP hS hl)
theorem s_ishl (C : Ok X own cc) {x y : Int32} (hd : decode cc pc = .ok (.ishl, 1)) (k : G X r0 ca sl μ (pc + 1) L (.int (x <<< (y &&& 31)) :: st) o) : G X r0 ca sl μ pc L (.int y :: .int x :: st) o := by
  obtain ⟨p, l, e, R, s, m, args, below, meth, c, D, ad, ty, A, Q, nL, vv⟩ := X
  obtain ⟨hx, hb, hml, hown, hts, hK, hD, hA, hlk, hZ⟩ := C
  intro h H locs ls hP hS hl
  exact lv_ishl hx hb hd (k h H locs ls hP hS hl)
theorem s_ishr (C : Ok X own cc) {x y : Int32} (hd : decode cc pc = .ok (.ishr, 1)) (k : G X r0 ca sl μ (pc + 1) L (.int (x >>> (y &&& 31)) :: st) o) : G X r0 ca sl μ pc L (.int y :: .int x :: st) o := by
  obtain ⟨p, l, e, R, s, m, args, below, meth, c, D, ad, ty, A, Q, nL, vv⟩ := X
  obtain ⟨hx, hb, hml, hown, hts, hK, hD, hA, hlk, hZ⟩ := C
  intro h H locs ls hP hS hl
  exact lv_ishr hx hb hd (k h H locs ls hP hS hl)
theorem s_ineg (C : Ok X own cc) {x : Int32} (hd : decode cc pc = .ok (.ineg, 1)) (k : G X r0 ca sl μ (pc + 1) L (.int (-x) :: st) o) : G X r0 ca sl μ pc L (.int x :: st) o := by
  obtain ⟨p, l, e, R, s, m, args, below, meth, c, D, ad, ty, A, Q, nL, vv⟩ := X
  obtain ⟨hx, hb, hml, hown, hts, hK, hD, hA, hlk, hZ⟩ := C
  intro h H locs ls hP hS hl
  exact lv_ineg hx hb hd (k h H locs ls hP hS hl)
theorem s_iushr (C : Ok X own cc) {x y : Int32} (hd : decode cc pc = .ok (.iushr, 1)) (k : G X r0 ca sl μ (pc + 1) L (.int ((x.toUInt32 >>> (y.toUInt32 &&& Int32.toUInt32 31)).toInt32) :: st) o) : G X r0 ca sl μ pc L (.int y :: .int x :: st) o := by
  obtain ⟨p, l, e, R, s, m, args, below, meth, c, D, ad, ty, A, Q, nL, vv⟩ := X
  obtain ⟨hx, hb, hml, hown, hts, hK, hD, hA, hlk, hZ⟩ := C
  intro h H locs ls hP hS hl
  exact lv_iushr hx hb hd rfl (k h H locs ls hP hS hl)
theorem s_i2l (C : Ok X own cc) {x : Int32} (hd : decode cc pc = .ok (.i2l, 1)) (k : G X r0 ca sl μ (pc + 1) L (.long x.toInt64 :: st) o) : G X r0 ca sl μ pc L (.int x :: st) o := by
  obtain ⟨p, l, e, R, s, m, args, below, meth, c, D, ad, ty, A, Q, nL, vv⟩ := X
  obtain ⟨hx, hb, hml, hown, hts, hK, hD, hA, hlk, hZ⟩ := C
  intro h H locs ls hP hS hl
  exact lv_i2l hx hb hd rfl (k h H locs ls hP hS hl)
theorem s_l2i (C : Ok X own cc) {x : Int64} (hd : decode cc pc = .ok (.l2i, 1)) (k : G X r0 ca sl μ (pc + 1) L (.int x.toInt32 :: st) o) : G X r0 ca sl μ pc L (.long x :: st) o := by
  obtain ⟨p, l, e, R, s, m, args, below, meth, c, D, ad, ty, A, Q, nL, vv⟩ := X
  obtain ⟨hx, hb, hml, hown, hts, hK, hD, hA, hlk, hZ⟩ := C
  intro h H locs ls hP hS hl
  exact lv_l2i hx hb hd rfl (k h H locs ls hP hS hl)
theorem s_i2b (C : Ok X own cc) {x : Int32} (hd : decode cc pc = .ok (.i2b, 1)) (k : G X r0 ca sl μ (pc + 1) L (.int x.toInt8.toInt32 :: st) o) : G X r0 ca sl μ pc L (.int x :: st) o := by
  obtain ⟨p, l, e, R, s, m, args, below, meth, c, D, ad, ty, A, Q, nL, vv⟩ := X
  obtain ⟨hx, hb, hml, hown, hts, hK, hD, hA, hlk, hZ⟩ := C
  intro h H locs ls hP hS hl
  exact lv_i2b hx hb hd rfl (k h H locs ls hP hS hl)
theorem s_ladd (C : Ok X own cc) {x y : Int64} (hd : decode cc pc = .ok (.ladd, 1)) (k : G X r0 ca sl μ (pc + 1) L (.long (x + y) :: st) o) : G X r0 ca sl μ pc L (.long y :: .long x :: st) o := by
  obtain ⟨p, l, e, R, s, m, args, below, meth, c, D, ad, ty, A, Q, nL, vv⟩ := X
  obtain ⟨hx, hb, hml, hown, hts, hK, hD, hA, hlk, hZ⟩ := C
  intro h H locs ls hP hS hl
  exact lv_ladd hx hb hd (k h H locs ls hP hS hl)
theorem s_lsub (C : Ok X own cc) {x y : Int64} (hd : decode cc pc = .ok (.lsub, 1)) (k : G X r0 ca sl μ (pc + 1) L (.long (x - y) :: st) o) : G X r0 ca sl μ pc L (.long y :: .long x :: st) o := by
  obtain ⟨p, l, e, R, s, m, args, below, meth, c, D, ad, ty, A, Q, nL, vv⟩ := X
  obtain ⟨hx, hb, hml, hown, hts, hK, hD, hA, hlk, hZ⟩ := C
  intro h H locs ls hP hS hl
  exact lv_lsub hx hb hd (k h H locs ls hP hS hl)
theorem s_lmul (C : Ok X own cc) {x y : Int64} (hd : decode cc pc = .ok (.lmul, 1)) (k : G X r0 ca sl μ (pc + 1) L (.long (x * y) :: st) o) : G X r0 ca sl μ pc L (.long y :: .long x :: st) o := by
  obtain ⟨p, l, e, R, s, m, args, below, meth, c, D, ad, ty, A, Q, nL, vv⟩ := X
  obtain ⟨hx, hb, hml, hown, hts, hK, hD, hA, hlk, hZ⟩ := C
  intro h H locs ls hP hS hl
  exact lv_lmul hx hb hd (k h H locs ls hP hS hl)
theorem s_land (C : Ok X own cc) {x y : Int64} (hd : decode cc pc = .ok (.land, 1)) (k : G X r0 ca sl μ (pc + 1) L (.long (x &&& y) :: st) o) : G X r0 ca sl μ pc L (.long y :: .long x :: st) o := by
  obtain ⟨p, l, e, R, s, m, args, below, meth, c, D, ad, ty, A, Q, nL, vv⟩ := X
  obtain ⟨hx, hb, hml, hown, hts, hK, hD, hA, hlk, hZ⟩ := C
  intro h H locs ls hP hS hl
  exact lv_land hx hb hd (k h H locs ls hP hS hl)
theorem s_lcmp (C : Ok X own cc) {x y : Int64} (hd : decode cc pc = .ok (.lcmp, 1)) (k : G X r0 ca sl μ (pc + 1) L (.int (lg_cmp x y) :: st) o) : G X r0 ca sl μ pc L (.long y :: .long x :: st) o := by
  obtain ⟨p, l, e, R, s, m, args, below, meth, c, D, ad, ty, A, Q, nL, vv⟩ := X
  obtain ⟨hx, hb, hml, hown, hts, hK, hD, hA, hlk, hZ⟩ := C
  intro h H locs ls hP hS hl
  exact W.lcmp hx hb hd (k h H locs ls hP hS hl)
theorem s_idiv (C : Ok X own cc) {x y : Int32} (hd : decode cc pc = .ok (.idiv, 1)) (k : G X r0 ca sl μ (pc + 1) L (.int (x / y) :: st) o) : G X r0 ca sl μ pc L (.int y :: .int x :: st) (ckD y o) := by
  obtain ⟨p, l, e, R, s, m, args, below, meth, c, D, ad, ty, A, Q, nL, vv⟩ := X
  obtain ⟨hx, hb, hml, hown, hts, hK, hD, hA, hlk, hZ⟩ := C
  intro h H locs ls hP hS hl
  unfold ckD at h
  split at h
  · rename_i hne
    exact lv_idiv hx hb hd hne (k h H locs ls hP hS hl)
  · cases h
theorem s_irem (C : Ok X own cc) {x y : Int32} (hd : decode cc pc = .ok (.irem, 1)) (k : G X r0 ca sl μ (pc + 1) L (.int (x - x / y * y) :: st) o) : G X r0 ca sl μ pc L (.int y :: .int x :: st) (ckD y o) := by
  obtain ⟨p, l, e, R, s, m, args, below, meth, c, D, ad, ty, A, Q, nL, vv⟩ := X
  obtain ⟨hx, hb, hml, hown, hts, hK, hD, hA, hlk, hZ⟩ := C
  intro h H locs ls hP hS hl
  unfold ckD at h
  split at h
  · rename_i hne
    exact lv_irem hx hb hd hne (k h H locs ls hP hS hl)
  · cases h
theorem s_ldiv (C : Ok X own cc) {x y : Int64} (hd : decode cc pc = .ok (.ldiv, 1)) (k : G X r0 ca sl μ (pc + 1) L (.long (x / y) :: st) o) : G X r0 ca sl μ pc L (.long y :: .long x :: st) (ckL y o) := by
  obtain ⟨p, l, e, R, s, m, args, below, meth, c, D, ad, ty, A, Q, nL, vv⟩ := X
  obtain ⟨hx, hb, hml, hown, hts, hK, hD, hA, hlk, hZ⟩ := C
  intro h H locs ls hP hS hl
  unfold ckL at h
  split at h
  · rename_i hne
    exact lv_ldiv hx hb hd hne (k h H locs ls hP hS hl)
  · cases h
theorem s_lrem (C : Ok X own cc) {x y : Int64} (hd : decode cc pc = .ok (.lrem, 1)) (k : G X r0 ca sl μ (pc + 1) L (.long (x - x / y * y) :: st) o) : G X r0 ca sl μ pc L (.long y :: .long x :: st) (ckL y o) := by
  obtain ⟨p, l, e, R, s, m, args, below, meth, c, D, ad, ty, A, Q, nL, vv⟩ := X
  obtain ⟨hx, hb, hml, hown, hts, hK, hD, hA, hlk, hZ⟩ := C
  intro h H locs ls hP hS hl
  unfold ckL at h
  split at h
  · rename_i hne
    exact lv_lrem hx hb hd hne (k h H locs ls hP hS hl)
  · cases h
theorem s_dup (C : Ok X own cc) {v : Value} (hd : decode cc pc = .ok (.dup, 1)) (hv : v.category = 1) (k : G X r0 ca sl μ (pc + 1) L (v :: v :: st) o) : G X r0 ca sl μ pc L (v :: st) o := by
  obtain ⟨p, l, e, R, s, m, args, below, meth, c, D, ad, ty, A, Q, nL, vv⟩ := X
  obtain ⟨hx, hb, hml, hown, hts, hK, hD, hA, hlk, hZ⟩ := C
  intro h H locs ls hP hS hl
  exact lv_dup hx hb hd hv (k h H locs ls hP hS hl)
theorem s_pop (C : Ok X own cc) {v : Value} (hd : decode cc pc = .ok (.pop, 1)) (hv : v.category = 1) (k : G X r0 ca sl μ (pc + 1) L (st) o) : G X r0 ca sl μ pc L (v :: st) o := by
  obtain ⟨p, l, e, R, s, m, args, below, meth, c, D, ad, ty, A, Q, nL, vv⟩ := X
  obtain ⟨hx, hb, hml, hown, hts, hK, hD, hA, hlk, hZ⟩ := C
  intro h H locs ls hP hS hl
  exact lv_pop hx hb hd hv (k h H locs ls hP hS hl)
theorem s_dup_x1 (C : Ok X own cc) {v w : Value} (hd : decode cc pc = .ok (.dup_x1, 1)) (hv : v.category = 1) (hw : w.category = 1) (k : G X r0 ca sl μ (pc + 1) L (v :: w :: v :: st) o) : G X r0 ca sl μ pc L (v :: w :: st) o := by
  obtain ⟨p, l, e, R, s, m, args, below, meth, c, D, ad, ty, A, Q, nL, vv⟩ := X
  obtain ⟨hx, hb, hml, hown, hts, hK, hD, hA, hlk, hZ⟩ := C
  intro h H locs ls hP hS hl
  exact lv_dup_x1 hx hb hd hv hw (k h H locs ls hP hS hl)
theorem s_dup2 (C : Ok X own cc) {v w : Value} (hd : decode cc pc = .ok (.dup2, 1)) (hv : v.category = 1) (hw : w.category = 1) (k : G X r0 ca sl μ (pc + 1) L (v :: w :: v :: w :: st) o) : G X r0 ca sl μ pc L (v :: w :: st) o := by
  obtain ⟨p, l, e, R, s, m, args, below, meth, c, D, ad, ty, A, Q, nL, vv⟩ := X
  obtain ⟨hx, hb, hml, hown, hts, hK, hD, hA, hlk, hZ⟩ := C
  intro h H locs ls hP hS hl
  exact lv_dup2_11 hx hb hd hv hw (k h H locs ls hP hS hl)
theorem s_if_eq (C : Ok X own cc) {x : Int32} {off : Int} {tgt : Nat} (hd : decode cc pc = .ok (.ifCond .eq off, 3)) (ht : (pc : Int) + off = (tgt : Int)) (k1 : x = 0 → G X r0 ca sl μ tgt L st o1) (k2 : ¬ (x = 0) → G X r0 ca sl μ (pc + 3) L st o2) : G X r0 ca sl μ pc L (.int x :: st) (if x = 0 then o1 else o2) := by
  obtain ⟨p, l, e, R, s, m, args, below, meth, c, D, ad, ty, A, Q, nL, vv⟩ := X
  obtain ⟨hx, hb, hml, hown, hts, hK, hD, hA, hlk, hZ⟩ := C
  intro h H locs ls hP hS hl
  refine lv_if_eq hx hb hd ht (fun q => ?_) (fun q => ?_)
  · exact k1 (by first | exact q | simpa using q) (by rw [if_pos (by first | exact q | simpa using q)] at h; exact h) H locs ls hP hS hl
  · exact k2 (by first | exact q | simpa using q) (by rw [if_neg (by first | exact q | simpa using q)] at h; exact h) H locs ls hP hS hl
theorem s_if_ne (C : Ok X own cc) {x : Int32} {off : Int} {tgt : Nat} (hd : decode cc pc = .ok (.ifCond .ne off, 3)) (ht : (pc : Int) + off = (tgt : Int)) (k1 : ¬ x = 0 → G X r0 ca sl μ tgt L st o1) (k2 : ¬ (¬ x = 0) → G X r0 ca sl μ (pc + 3) L st o2) : G X r0 ca sl μ pc L (.int x :: st) (if ¬ x = 0 then o1 else o2) := by
  obtain ⟨p, l, e, R, s, m, args, below, meth, c, D, ad, ty, A, Q, nL, vv⟩ := X
  obtain ⟨hx, hb, hml, hown, hts, hK, hD, hA, hlk, hZ⟩ := C
  intro h H locs ls hP hS hl
  refine lv_if_ne hx hb hd ht (fun q => ?_) (fun q => ?_)
  · exact k1 (by first | exact q | simpa using q) (by rw [if_pos (by first | exact q | simpa using q)] at h; exact h) H locs ls hP hS hl
  · exact k2 (by first | exact q | simpa using q) (by rw [if_neg (by first | exact q | simpa using q)] at h; exact h) H locs ls hP hS hl
theorem s_if_lt (C : Ok X own cc) {x : Int32} {off : Int} {tgt : Nat} (hd : decode cc pc = .ok (.ifCond .lt off, 3)) (ht : (pc : Int) + off = (tgt : Int)) (k1 : x < 0 → G X r0 ca sl μ tgt L st o1) (k2 : ¬ (x < 0) → G X r0 ca sl μ (pc + 3) L st o2) : G X r0 ca sl μ pc L (.int x :: st) (if x < 0 then o1 else o2) := by
  obtain ⟨p, l, e, R, s, m, args, below, meth, c, D, ad, ty, A, Q, nL, vv⟩ := X
  obtain ⟨hx, hb, hml, hown, hts, hK, hD, hA, hlk, hZ⟩ := C
  intro h H locs ls hP hS hl
  refine lv_if_lt hx hb hd ht (fun q => ?_) (fun q => ?_)
  · exact k1 (by first | exact q | simpa using q) (by rw [if_pos (by first | exact q | simpa using q)] at h; exact h) H locs ls hP hS hl
  · exact k2 (by first | exact q | simpa using q) (by rw [if_neg (by first | exact q | simpa using q)] at h; exact h) H locs ls hP hS hl
theorem s_if_ge (C : Ok X own cc) {x : Int32} {off : Int} {tgt : Nat} (hd : decode cc pc = .ok (.ifCond .ge off, 3)) (ht : (pc : Int) + off = (tgt : Int)) (k1 : 0 ≤ x → G X r0 ca sl μ tgt L st o1) (k2 : ¬ (0 ≤ x) → G X r0 ca sl μ (pc + 3) L st o2) : G X r0 ca sl μ pc L (.int x :: st) (if 0 ≤ x then o1 else o2) := by
  obtain ⟨p, l, e, R, s, m, args, below, meth, c, D, ad, ty, A, Q, nL, vv⟩ := X
  obtain ⟨hx, hb, hml, hown, hts, hK, hD, hA, hlk, hZ⟩ := C
  intro h H locs ls hP hS hl
  refine lv_if_ge hx hb hd ht (fun q => ?_) (fun q => ?_)
  · exact k1 (by first | exact q | simpa using q) (by rw [if_pos (by first | exact q | simpa using q)] at h; exact h) H locs ls hP hS hl
  · exact k2 (by first | exact q | simpa using q) (by rw [if_neg (by first | exact q | simpa using q)] at h; exact h) H locs ls hP hS hl
theorem s_if_gt (C : Ok X own cc) {x : Int32} {off : Int} {tgt : Nat} (hd : decode cc pc = .ok (.ifCond .gt off, 3)) (ht : (pc : Int) + off = (tgt : Int)) (k1 : 0 < x → G X r0 ca sl μ tgt L st o1) (k2 : ¬ (0 < x) → G X r0 ca sl μ (pc + 3) L st o2) : G X r0 ca sl μ pc L (.int x :: st) (if 0 < x then o1 else o2) := by
  obtain ⟨p, l, e, R, s, m, args, below, meth, c, D, ad, ty, A, Q, nL, vv⟩ := X
  obtain ⟨hx, hb, hml, hown, hts, hK, hD, hA, hlk, hZ⟩ := C
  intro h H locs ls hP hS hl
  refine lv_if_gt hx hb hd ht (fun q => ?_) (fun q => ?_)
  · exact k1 (by first | exact q | simpa using q) (by rw [if_pos (by first | exact q | simpa using q)] at h; exact h) H locs ls hP hS hl
  · exact k2 (by first | exact q | simpa using q) (by rw [if_neg (by first | exact q | simpa using q)] at h; exact h) H locs ls hP hS hl
theorem s_if_le (C : Ok X own cc) {x : Int32} {off : Int} {tgt : Nat} (hd : decode cc pc = .ok (.ifCond .le off, 3)) (ht : (pc : Int) + off = (tgt : Int)) (k1 : x ≤ 0 → G X r0 ca sl μ tgt L st o1) (k2 : ¬ (x ≤ 0) → G X r0 ca sl μ (pc + 3) L st o2) : G X r0 ca sl μ pc L (.int x :: st) (if x ≤ 0 then o1 else o2) := by
  obtain ⟨p, l, e, R, s, m, args, below, meth, c, D, ad, ty, A, Q, nL, vv⟩ := X
  obtain ⟨hx, hb, hml, hown, hts, hK, hD, hA, hlk, hZ⟩ := C
  intro h H locs ls hP hS hl
  refine lv_if_le hx hb hd ht (fun q => ?_) (fun q => ?_)
  · exact k1 (by first | exact q | simpa using q) (by rw [if_pos (by first | exact q | simpa using q)] at h; exact h) H locs ls hP hS hl
  · exact k2 (by first | exact q | simpa using q) (by rw [if_neg (by first | exact q | simpa using q)] at h; exact h) H locs ls hP hS hl
theorem s_icmp_eq (C : Ok X own cc) {x y : Int32} {off : Int} {tgt : Nat} (hd : decode cc pc = .ok (.if_icmp .eq off, 3)) (ht : (pc : Int) + off = (tgt : Int)) (k1 : x = y → G X r0 ca sl μ tgt L st o1) (k2 : ¬ (x = y) → G X r0 ca sl μ (pc + 3) L st o2) : G X r0 ca sl μ pc L (.int y :: .int x :: st) (if x = y then o1 else o2) := by
  obtain ⟨p, l, e, R, s, m, args, below, meth, c, D, ad, ty, A, Q, nL, vv⟩ := X
  obtain ⟨hx, hb, hml, hown, hts, hK, hD, hA, hlk, hZ⟩ := C
  intro h H locs ls hP hS hl
  refine lv_icmp_eq hx hb hd ht (fun q => ?_) (fun q => ?_)
  · exact k1 (by first | exact q | simpa using q) (by rw [if_pos (by first | exact q | simpa using q)] at h; exact h) H locs ls hP hS hl
  · exact k2 (by first | exact q | simpa using q) (by rw [if_neg (by first | exact q | simpa using q)] at h; exact h) H locs ls hP hS hl
theorem s_icmp_ne (C : Ok X own cc) {x y : Int32} {off : Int} {tgt : Nat} (hd : decode cc pc = .ok (.if_icmp .ne off, 3)) (ht : (pc : Int) + off = (tgt : Int)) (k1 : ¬ x = y → G X r0 ca sl μ tgt L st o1) (k2 : ¬ (¬ x = y) → G X r0 ca sl μ (pc + 3) L st o2) : G X r0 ca sl μ pc L (.int y :: .int x :: st) (if ¬ x = y then o1 else o2) := by
  obtain ⟨p, l, e, R, s, m, args, below, meth, c, D, ad, ty, A, Q, nL, vv⟩ := X
  obtain ⟨hx, hb, hml, hown, hts, hK, hD, hA, hlk, hZ⟩ := C
  intro h H locs ls hP hS hl
  refine lv_icmp_ne hx hb hd ht (fun q => ?_) (fun q => ?_)
  · exact k1 (by first | exact q | simpa using q) (by rw [if_pos (by first | exact q | simpa using q)] at h; exact h) H locs ls hP hS hl
  · exact k2 (by first | exact q | simpa using q) (by rw [if_neg (by first | exact q | simpa using q)] at h; exact h) H locs ls hP hS hl
theorem s_icmp_lt (C : Ok X own cc) {x y : Int32} {off : Int} {tgt : Nat} (hd : decode cc pc = .ok (.if_icmp .lt off, 3)) (ht : (pc : Int) + off = (tgt : Int)) (k1 : x < y → G X r0 ca sl μ tgt L st o1) (k2 : ¬ (x < y) → G X r0 ca sl μ (pc + 3) L st o2) : G X r0 ca sl μ pc L (.int y :: .int x :: st) (if x < y then o1 else o2) := by
  obtain ⟨p, l, e, R, s, m, args, below, meth, c, D, ad, ty, A, Q, nL, vv⟩ := X
  obtain ⟨hx, hb, hml, hown, hts, hK, hD, hA, hlk, hZ⟩ := C
  intro h H locs ls hP hS hl
  refine lv_icmp_lt hx hb hd ht (fun q => ?_) (fun q => ?_)
  · exact k1 (by first | exact q | simpa using q) (by rw [if_pos (by first | exact q | simpa using q)] at h; exact h) H locs ls hP hS hl
  · exact k2 (by first | exact q | simpa using q) (by rw [if_neg (by first | exact q | simpa using q)] at h; exact h) H locs ls hP hS hl
theorem s_icmp_ge (C : Ok X own cc) {x y : Int32} {off : Int} {tgt : Nat} (hd : decode cc pc = .ok (.if_icmp .ge off, 3)) (ht : (pc : Int) + off = (tgt : Int)) (k1 : y ≤ x → G X r0 ca sl μ tgt L st o1) (k2 : ¬ (y ≤ x) → G X r0 ca sl μ (pc + 3) L st o2) : G X r0 ca sl μ pc L (.int y :: .int x :: st) (if y ≤ x then o1 else o2) := by
  obtain ⟨p, l, e, R, s, m, args, below, meth, c, D, ad, ty, A, Q, nL, vv⟩ := X
  obtain ⟨hx, hb, hml, hown, hts, hK, hD, hA, hlk, hZ⟩ := C
  intro h H locs ls hP hS hl
  refine lv_icmp_ge hx hb hd ht (fun q => ?_) (fun q => ?_)
  · exact k1 (by first | exact q | simpa using q) (by rw [if_pos (by first | exact q | simpa using q)] at h; exact h) H locs ls hP hS hl
  · exact k2 (by first | exact q | simpa using q) (by rw [if_neg (by first | exact q | simpa using q)] at h; exact h) H locs ls hP hS hl
theorem s_icmp_gt (C : Ok X own cc) {x y : Int32} {off : Int} {tgt : Nat} (hd : decode cc pc = .ok (.if_icmp .gt off, 3)) (ht : (pc : Int) + off = (tgt : Int)) (k1 : y < x → G X r0 ca sl μ tgt L st o1) (k2 : ¬ (y < x) → G X r0 ca sl μ (pc + 3) L st o2) : G X r0 ca sl μ pc L (.int y :: .int x :: st) (if y < x then o1 else o2) := by
  obtain ⟨p, l, e, R, s, m, args, below, meth, c, D, ad, ty, A, Q, nL, vv⟩ := X
  obtain ⟨hx, hb, hml, hown, hts, hK, hD, hA, hlk, hZ⟩ := C
  intro h H locs ls hP hS hl
  refine lv_icmp_gt hx hb hd ht (fun q => ?_) (fun q => ?_)
  · exact k1 (by first | exact q | simpa using q) (by rw [if_pos (by first | exact q | simpa using q)] at h; exact h) H locs ls hP hS hl
  · exact k2 (by first | exact q | simpa using q) (by rw [if_neg (by first | exact q | simpa using q)] at h; exact h) H locs ls hP hS hl
theorem s_icmp_le (C : Ok X own cc) {x y : Int32} {off : Int} {tgt : Nat} (hd : decode cc pc = .ok (.if_icmp .le off, 3)) (ht : (pc : Int) + off = (tgt : Int)) (k1 : x ≤ y → G X r0 ca sl μ tgt L st o1) (k2 : ¬ (x ≤ y) → G X r0 ca sl μ (pc + 3) L st o2) : G X r0 ca sl μ pc L (.int y :: .int x :: st) (if x ≤ y then o1 else o2) := by
  obtain ⟨p, l, e, R, s, m, args, below, meth, c, D, ad, ty, A, Q, nL, vv⟩ := X
  obtain ⟨hx, hb, hml, hown, hts, hK, hD, hA, hlk, hZ⟩ := C
  intro h H locs ls hP hS hl
  refine lv_icmp_le hx hb hd ht (fun q => ?_) (fun q => ?_)
  · exact k1 (by first | exact q | simpa using q) (by rw [if_pos (by first | exact q | simpa using q)] at h; exact h) H locs ls hP hS hl
  · exact k2 (by first | exact q | simpa using q) (by rw [if_neg (by first | exact q | simpa using q)] at h; exact h) H locs ls hP hS hl
theorem s_goto (C : Ok X own cc) {off : Int} {tgt : Nat} (hd : decode cc pc = .ok (.goto off, 3)) (ht : (pc : Int) + off = (tgt : Int)) (k : G X r0 ca sl μ tgt L st o) : G X r0 ca sl μ pc L st o := by
  obtain ⟨p, l, e, R, s, m, args, below, meth, c, D, ad, ty, A, Q, nL, vv⟩ := X
  obtain ⟨hx, hb, hml, hown, hts, hK, hD, hA, hlk, hZ⟩ := C
  intro h H locs ls hP hS hl
  exact lv_goto hx hb hd ht (k h H locs ls hP hS hl)
theorem g_cases {x v : Int32} (k1 : x = v → G X r0 ca sl μ pc L (.int x :: st) o1) (k2 : ¬ x = v → G X r0 ca sl μ pc L (.int x :: st) o2) : G X r0 ca sl μ pc L (.int x :: st) (if x = v then o1 else o2) := by
  intro h
  by_cases q : x = v
  · exact k1 q (by rw [if_pos q] at h; exact h)
  · exact k2 q (by rw [if_neg q] at h; exact h)
theorem s_tin (C : Ok X own cc) {dflt lo hi : Int} {offs : Array Int} {len : Nat} {x v : Int32} {off : Int} {tgt : Nat} (hd : decode cc pc = .ok (.tableswitch dflt lo hi offs, len)) (hv : x = v) (h1 : ¬ v.toInt < lo) (h2 : ¬ hi < v.toInt) (ho : offs[(v.toInt - lo).toNat]? = some off) (ht : (pc : Int) + off = (tgt : Int)) (k : G X r0 ca sl μ tgt L st o) : G X r0 ca sl μ pc L (.int x :: st) o := by
  obtain ⟨p, l, e, R, s, m, args, below, meth, c, D, ad, ty, A, Q, nL, vv⟩ := X
  obtain ⟨hx, hb, hml, hown, hts, hK, hD, hA, hlk, hZ⟩ := C
  intro h H locs ls hP hS hl
  subst hv
  exact lv_tableIn hx hb hd h1 h2 ho ht (k h H locs ls hP hS hl)
theorem s_tout (C : Ok X own cc) {dflt lo hi : Int} {offs : Array Int} {len : Nat} {x : Int32} {tgt : Nat} (hd : decode cc pc = .ok (.tableswitch dflt lo hi offs, len)) (h1 : x.toInt < lo ∨ hi < x.toInt) (ht : (pc : Int) + dflt = (tgt : Int)) (k : G X r0 ca sl μ tgt L st o) : G X r0 ca sl μ pc L (.int x :: st) o := by
  obtain ⟨p, l, e, R, s, m, args, below, meth, c, D, ad, ty, A, Q, nL, vv⟩ := X
  obtain ⟨hx, hb, hml, hown, hts, hK, hD, hA, hlk, hZ⟩ := C
  intro h H locs ls hP hS hl
  exact lv_tableOut hx hb hd h1 ht (k h H locs ls hP hS hl)
/-- what a field row rests on: the kind, its place there, the link; and where it is written, its type -/
def FG (vv : Nat) (own : String) (ix κ cnt k : Nat) (sp : SP) : Prop := ∃ (ci : Nat) (sl : List SP) (C : String) (T : u_T), (kdL vv)[κ]? = some (cnt, .inl (ci, sl)) ∧ vwCl[ci]? = some (C, T, sl.length) ∧ (∀ w ∈ u_ws C T sl.length, w ∈ tb) ∧ sl[k]? = some sp ∧ Cond.fieldLink own ix (T k).1 (T k).2.1 (T k).2.2.1 ∈ tb
def FP (vv : Nat) (own : String) (ix κ cnt k : Nat) (sp : SP) (t : FieldType) : Prop := ∃ (ci : Nat) (sl : List SP) (C : String) (T : u_T) (ty0 : Nat → FieldType), (kdL vv)[κ]? = some (cnt, .inl (ci, sl)) ∧ vwCl[ci]? = some (C, T, sl.length) ∧ (∀ w ∈ u_ws C T sl.length, w ∈ tb) ∧ sl[k]? = some sp ∧ Cond.fieldLink own ix (T k).1 (T k).2.1 (T k).2.2.1 ∈ tb ∧
  (∀ k, k < sl.length → parseFieldDescriptor (T k).2.2.1 = some (ty0 k)) ∧ (∀ a, a < sl.length → ∀ b, b < sl.length → a ≠ b → (T a).2.1 ≠ (T b).2.1) ∧ (T k).2.2.2 = false ∧ parseFieldDescriptor (T k).2.2.1 = some t
theorem sl_lt {sl : List SP} {k : Nat} {sp : SP} (h : sl[k]? = some sp) : k < sl.length := (List.getElem?_eq_some_iff.mp h).1
theorem sv_at {ad : Nat → Nat → Nat} {n : Nat} {a : Nat → Int32} {b : Nat → Nat} {sl : List SP} {k : Nat} {sp : SP} (h : sl[k]? = some sp) : (sl.mapIdx (fun k sp => sv ad n a b k sp))[k]? = some (sv ad n a b k sp) := by rw [List.getElem?_mapIdx, h]; rfl
theorem s_getI (C : Ok X own cc) {ix κ cnt k n : Nat} (F : FG (xv X) own ix κ cnt k (none)) (hn : n < cnt) (hd : decode cc pc = .ok (.getfield ix, 3)) (kk : G X r0 ca sl μ (pc + 3) L (.int (μ.1 κ n k) :: st) o) : G X r0 ca sl μ pc L (.ref (xa X κ n) :: st) o := by
  obtain ⟨p, l, e, R, s, m, args, below, meth, c, D, ad, ty, A, Q, nL, vv⟩ := X
  obtain ⟨hx, hb, hml, hown, hts, hK, hD, hA, hlk, hZ⟩ := C
  obtain ⟨ci, sl0, C0, T, f1, f2, f3, f4, f5⟩ := F
  have f1 : (kdL vv)[κ]? = some (cnt, .inl (ci, sl0)) := f1
  intro h H locs ls hP hS hl
  obtain ⟨q0, hq⟩ := cell_at f1 hn
  exact va_get hx hb hts f3 hown hK hP q0 (obj_at f1 hq) f2 k (sl_lt f4) (hts _ f5) (fun _ h9 => h9) (sv_at f4) hd (kk h H locs ls hP hS hl)
theorem s_getF (C : Ok X own cc) {ix κ cnt k n : Nat} {κ2 : Nat} {g : Nat → Nat} (F : FG (xv X) own ix κ cnt k (some (κ2, some g))) (hn : n < cnt) (hd : decode cc pc = .ok (.getfield ix, 3)) (kk : G X r0 ca sl μ (pc + 3) L (.ref (xa X κ2 (g n)) :: st) o) : G X r0 ca sl μ pc L (.ref (xa X κ n) :: st) o := by
  obtain ⟨p, l, e, R, s, m, args, below, meth, c, D, ad, ty, A, Q, nL, vv⟩ := X
  obtain ⟨hx, hb, hml, hown, hts, hK, hD, hA, hlk, hZ⟩ := C
  obtain ⟨ci, sl0, C0, T, f1, f2, f3, f4, f5⟩ := F
  have f1 : (kdL vv)[κ]? = some (cnt, .inl (ci, sl0)) := f1
  intro h H locs ls hP hS hl
  obtain ⟨q0, hq⟩ := cell_at f1 hn
  exact va_get hx hb hts f3 hown hK hP q0 (obj_at f1 hq) f2 k (sl_lt f4) (hts _ f5) (fun _ h9 => h9) (sv_at f4) hd (kk h H locs ls hP hS hl)
theorem s_getM (C : Ok X own cc) {ix κ cnt k n : Nat} {κ2 : Nat} (F : FG (xv X) own ix κ cnt k (some (κ2, none))) (hn : n < cnt) (hd : decode cc pc = .ok (.getfield ix, 3)) (kk : G X r0 ca sl μ (pc + 3) L (.ref (xa X κ2 (μ.2.1 κ n k)) :: st) o) : G X r0 ca sl μ pc L (.ref (xa X κ n) :: st) o := by
  obtain ⟨p, l, e, R, s, m, args, below, meth, c, D, ad, ty, A, Q, nL, vv⟩ := X
  obtain ⟨hx, hb, hml, hown, hts, hK, hD, hA, hlk, hZ⟩ := C
  obtain ⟨ci, sl0, C0, T, f1, f2, f3, f4, f5⟩ := F
  have f1 : (kdL vv)[κ]? = some (cnt, .inl (ci, sl0)) := f1
  intro h H locs ls hP hS hl
  obtain ⟨q0, hq⟩ := cell_at f1 hn
  exact va_get hx hb hts f3 hown hK hP q0 (obj_at f1 hq) f2 k (sl_lt f4) (hts _ f5) (fun _ h9 => h9) (sv_at f4) hd (kk h H locs ls hP hS hl)
theorem s_putI (C : Ok X own cc) {ix κ cnt k n : Nat} {v : Int32} (F : FP (xv X) own ix κ cnt k (none) (.int)) (hn : n < cnt) (hd : decode cc pc = .ok (.putfield ix, 3)) (kk : G X r0 ca sl (wI μ κ n k v) (pc + 3) L st o) : G X r0 ca sl μ pc L (.int v :: .ref (xa X κ n) :: st) (o) := by
  obtain ⟨p, l, e, R, s, m, args, below, meth, c, D, ad, ty, A, Q, nL, vv⟩ := X
  obtain ⟨hx, hb, hml, hown, hts, hK, hD, hA, hlk, hZ⟩ := C
  obtain ⟨ci, sl0, C0, T, ty0, f1, f2, f3, f4, f5, f6, f7, f8, f9⟩ := F
  have f1 : (kdL vv)[κ]? = some (cnt, .inl (ci, sl0)) := f1
  intro h H locs ls hP hS hl
  obtain ⟨q0, hq⟩ := cell_at f1 hn
  exact va_put hx hb hts f3 ty0 f6 f7 hown hK hP (hD μ) hS q0 (obj_at f1 hq) f2 k (sl_lt f4) (hts _ f5) (fun _ h9 => h9) f8 f9 (rfl) (rfl) (by rw [List.length_mapIdx]; exact sl_lt f4) hd (fun H1 locs1 hP1 hD1 hS1 => kk h H1 locs1 ls (Eq.mp (congrArg (fun w => va_P D vwCl w H1) (obj_setI (ad := ad) (ty := ty) (μ := μ) (v := v) (kd_nodup vv) f1 hq f4)) hP1) hS1 hl)
theorem s_putZ (C : Ok X own cc) {ix κ cnt k n : Nat} {v : Int32} (F : FP (xv X) own ix κ cnt k (none) (.boolean)) (hn : n < cnt) (hd : decode cc pc = .ok (.putfield ix, 3)) (kk : G X r0 ca sl (wI μ κ n k v) (pc + 3) L st o) : G X r0 ca sl μ pc L (.int v :: .ref (xa X κ n) :: st) (ckZ v o) := by
  obtain ⟨p, l, e, R, s, m, args, below, meth, c, D, ad, ty, A, Q, nL, vv⟩ := X
  obtain ⟨hx, hb, hml, hown, hts, hK, hD, hA, hlk, hZ⟩ := C
  obtain ⟨ci, sl0, C0, T, ty0, f1, f2, f3, f4, f5, f6, f7, f8, f9⟩ := F
  have f1 : (kdL vv)[κ]? = some (cnt, .inl (ci, sl0)) := f1
  intro h H locs ls hP hS hl
  unfold ckZ at h
  split at h
  case isFalse => cases h
  rename_i hz
  obtain ⟨q0, hq⟩ := cell_at f1 hn
  exact va_put hx hb hts f3 ty0 f6 f7 hown hK hP (hD μ) hS q0 (obj_at f1 hq) f2 k (sl_lt f4) (hts _ f5) (fun _ h9 => h9) f8 f9 (by rcases hz with rfl | rfl <;> rfl) (by rcases hz with rfl | rfl <;> rfl) (by rw [List.length_mapIdx]; exact sl_lt f4) hd (fun H1 locs1 hP1 hD1 hS1 => kk h H1 locs1 ls (Eq.mp (congrArg (fun w => va_P D vwCl w H1) (obj_setI (ad := ad) (ty := ty) (μ := μ) (v := v) (kd_nodup vv) f1 hq f4)) hP1) hS1 hl)
theorem s_putM (C : Ok X own cc) {ix κ cnt k n : Nat} {κ2 v : Nat} {Cz : String} (F : FP (xv X) own ix κ cnt k (some (κ2, none)) (.object Cz)) (hn : n < cnt) (hd : decode cc pc = .ok (.putfield ix, 3)) (kk : G X r0 ca sl (wR μ κ n k v) (pc + 3) L st o) : G X r0 ca sl μ pc L (.ref (xa X κ2 v) :: .ref (xa X κ n) :: st) (o) := by
  obtain ⟨p, l, e, R, s, m, args, below, meth, c, D, ad, ty, A, Q, nL, vv⟩ := X
  obtain ⟨hx, hb, hml, hown, hts, hK, hD, hA, hlk, hZ⟩ := C
  obtain ⟨ci, sl0, C0, T, ty0, f1, f2, f3, f4, f5, f6, f7, f8, f9⟩ := F
  have f1 : (kdL vv)[κ]? = some (cnt, .inl (ci, sl0)) := f1
  intro h H locs ls hP hS hl
  obtain ⟨q0, hq⟩ := cell_at f1 hn
  exact va_put hx hb hts f3 ty0 f6 f7 hown hK hP (hD μ) hS q0 (obj_at f1 hq) f2 k (sl_lt f4) (hts _ f5) (fun _ h9 => h9) f8 f9 (rfl) (rfl) (by rw [List.length_mapIdx]; exact sl_lt f4) hd (fun H1 locs1 hP1 hD1 hS1 => kk h H1 locs1 ls (Eq.mp (congrArg (fun w => va_P D vwCl w H1) (obj_setR (ad := ad) (ty := ty) (μ := μ) (v := v) (kd_nodup vv) f1 hq f4)) hP1) hS1 hl)
/-- what an array row rests on -/
def AG (vv : Nat) (κ cnt t : Nat) (len : (Nat → Nat) → Nat → Nat) (el : EL) : Prop := (kdL vv)[κ]? = some (cnt, .inr (t, len, el))
theorem s_iald (C : Ok X own cc) {κ cnt n : Nat} {i : Int32} {len : (Nat → Nat) → Nat → Nat} (F : AG (xv X) κ cnt 0 len (none)) (hn : n < cnt) (hd : decode cc pc = .ok (.iaload, 1)) (kk : G X r0 ca sl μ (pc + 1) L (.int (μ.1 κ n i.toNatClampNeg) :: st) o) : G X r0 ca sl μ pc L (.int i :: .ref (xa X κ n) :: st) (ckI i (len (μ.2.1 κ n) n) o) := by
  obtain ⟨p, l, e, R, s, m, args, below, meth, c, D, ad, ty, A, Q, nL, vv⟩ := X
  obtain ⟨hx, hb, hml, hown, hts, hK, hD, hA, hlk, hZ⟩ := C
  intro h H locs ls hP hS hl
  unfold ckI at h
  split at h
  case isFalse => cases h
  rename_i hi
  have Fq := F
  unfold AG at Fq
  dsimp only [xv] at Fq
  obtain ⟨q0, hq⟩ := cell_at Fq hn
  exact va_iald hx hb hK hP q0 0 (arr_at Fq hq) rfl hi hd (kk h H locs ls hP hS hl)
theorem s_bald (C : Ok X own cc) {κ cnt n : Nat} {i : Int32} {len : (Nat → Nat) → Nat → Nat} (F : AG (xv X) κ cnt 1 len (none)) (hn : n < cnt) (hd : decode cc pc = .ok (.baload, 1)) (kk : G X r0 ca sl μ (pc + 1) L (.int (μ.1 κ n i.toNatClampNeg) :: st) o) : G X r0 ca sl μ pc L (.int i :: .ref (xa X κ n) :: st) (ckI i (len (μ.2.1 κ n) n) o) := by
  obtain ⟨p, l, e, R, s, m, args, below, meth, c, D, ad, ty, A, Q, nL, vv⟩ := X
  obtain ⟨hx, hb, hml, hown, hts, hK, hD, hA, hlk, hZ⟩ := C
  intro h H locs ls hP hS hl
  unfold ckI at h
  split at h
  case isFalse => cases h
  rename_i hi
  have Fq := F
  unfold AG at Fq
  dsimp only [xv] at Fq
  obtain ⟨q0, hq⟩ := cell_at Fq hn
  exact va_bald hx hb hK hP q0 1 (arr_at Fq hq) rfl hi hd (kk h H locs ls hP hS hl)
theorem s_zald (C : Ok X own cc) {κ cnt n : Nat} {i : Int32} {len : (Nat → Nat) → Nat → Nat} (F : AG (xv X) κ cnt 2 len (none)) (hn : n < cnt) (hd : decode cc pc = .ok (.baload, 1)) (kk : G X r0 ca sl μ (pc + 1) L (.int (μ.1 κ n i.toNatClampNeg) :: st) o) : G X r0 ca sl μ pc L (.int i :: .ref (xa X κ n) :: st) (ckI i (len (μ.2.1 κ n) n) o) := by
  obtain ⟨p, l, e, R, s, m, args, below, meth, c, D, ad, ty, A, Q, nL, vv⟩ := X
  obtain ⟨hx, hb, hml, hown, hts, hK, hD, hA, hlk, hZ⟩ := C
  intro h H locs ls hP hS hl
  unfold ckI at h
  split at h
  case isFalse => cases h
  rename_i hi
  have Fq := F
  unfold AG at Fq
  dsimp only [xv] at Fq
  obtain ⟨q0, hq⟩ := cell_at Fq hn
  exact va_zald hx hb hK hP q0 2 (arr_at Fq hq) rfl hi hd (kk h H locs ls hP hS hl)
theorem s_lald (C : Ok X own cc) {κ cnt n : Nat} {i : Int32} {len : (Nat → Nat) → Nat → Nat} (F : AG (xv X) κ cnt 3 len (some none)) (hn : n < cnt) (hd : decode cc pc = .ok (.laload, 1)) (kk : G X r0 ca sl μ (pc + 1) L (.long (μ.2.2 κ n i.toNatClampNeg) :: st) o) : G X r0 ca sl μ pc L (.int i :: .ref (xa X κ n) :: st) (ckI i (len (μ.2.1 κ n) n) o) := by
  obtain ⟨p, l, e, R, s, m, args, below, meth, c, D, ad, ty, A, Q, nL, vv⟩ := X
  obtain ⟨hx, hb, hml, hown, hts, hK, hD, hA, hlk, hZ⟩ := C
  intro h H locs ls hP hS hl
  unfold ckI at h
  split at h
  case isFalse => cases h
  rename_i hi
  have Fq := F
  unfold AG at Fq
  dsimp only [xv] at Fq
  obtain ⟨q0, hq⟩ := cell_at Fq hn
  exact va_lald hx hb hK hP q0 3 (arr_at Fq hq) rfl hi hd (kk h H locs ls hP hS hl)
theorem s_aaldF (C : Ok X own cc) {κ cnt n t κ2 : Nat} {Cz : String} {g : Nat → Nat → Nat} {i : Int32} {len : (Nat → Nat) → Nat → Nat} (F : AG (xv X) κ cnt t len (some (some (κ2, some g)))) (ht : ∀ ty : Nat → ClassId, (tys ty)[t]? = some (ty t, .object Cz)) (hn : n < cnt) (hd : decode cc pc = .ok (.aaload, 1)) (kk : ¬ (i < 0 ∨ len (μ.2.1 κ n) n ≤ i.toNatClampNeg) → G X r0 ca sl μ (pc + 1) L (.ref (xa X κ2 (g n i.toNatClampNeg)) :: st) o) : G X r0 ca sl μ pc L (.int i :: .ref (xa X κ n) :: st) (ckI i (len (μ.2.1 κ n) n) o) := by
  obtain ⟨p, l, e, R, s, m, args, below, meth, c, D, ad, ty, A, Q, nL, vv⟩ := X
  obtain ⟨hx, hb, hml, hown, hts, hK, hD, hA, hlk, hZ⟩ := C
  intro h H locs ls hP hS hl
  unfold ckI at h
  split at h
  case isFalse => cases h
  rename_i hi
  have Fq := F
  unfold AG at Fq
  dsimp only [xv] at Fq
  obtain ⟨q0, hq⟩ := cell_at Fq hn
  exact va_aldq hx hb hK hP q0 t (arr_at Fq hq) (ht ty) hi hd (kk hi h H locs ls hP hS hl)
theorem s_aaldM (C : Ok X own cc) {κ cnt n t κ2 : Nat} {Cz : String} {i : Int32} {len : (Nat → Nat) → Nat → Nat} (F : AG (xv X) κ cnt t len (some (some (κ2, none)))) (ht : ∀ ty : Nat → ClassId, (tys ty)[t]? = some (ty t, .object Cz)) (hn : n < cnt) (hd : decode cc pc = .ok (.aaload, 1)) (kk : G X r0 ca sl μ (pc + 1) L (.ref (xa X κ2 (μ.2.1 κ n i.toNatClampNeg)) :: st) o) : G X r0 ca sl μ pc L (.int i :: .ref (xa X κ n) :: st) (ckI i (len (μ.2.1 κ n) n) o) := by
  obtain ⟨p, l, e, R, s, m, args, below, meth, c, D, ad, ty, A, Q, nL, vv⟩ := X
  obtain ⟨hx, hb, hml, hown, hts, hK, hD, hA, hlk, hZ⟩ := C
  intro h H locs ls hP hS hl
  unfold ckI at h
  split at h
  case isFalse => cases h
  rename_i hi
  have Fq := F
  unfold AG at Fq
  dsimp only [xv] at Fq
  obtain ⟨q0, hq⟩ := cell_at Fq hn
  exact va_aldq hx hb hK hP q0 t (arr_at Fq hq) (ht ty) hi hd (kk h H locs ls hP hS hl)
theorem s_alen (C : Ok X own cc) {κ cnt n t : Nat} {ft : FieldType} {el : EL} {len : (Nat → Nat) → Nat → Nat} (F : AG (xv X) κ cnt t len el) (ht : ∀ ty : Nat → ClassId, (tys ty)[t]? = some (ty t, ft)) (hn : n < cnt) (hd : decode cc pc = .ok (.arraylength, 1)) (kk : G X r0 ca sl μ (pc + 1) L (.int (Int32.ofNat (len (μ.2.1 κ n) n)) :: st) o) : G X r0 ca sl μ pc L (.ref (xa X κ n) :: st) o := by
  obtain ⟨p, l, e, R, s, m, args, below, meth, c, D, ad, ty, A, Q, nL, vv⟩ := X
  obtain ⟨hx, hb, hml, hown, hts, hK, hD, hA, hlk, hZ⟩ := C
  intro h H locs ls hP hS hl
  have Fq := F
  unfold AG at Fq
  dsimp only [xv] at Fq
  obtain ⟨q0, hq⟩ := cell_at Fq hn
  exact va_alen hx hb hK hP q0 t (arr_at Fq hq) (ht ty) rfl hd (kk h H locs ls hP hS hl)
theorem s_iast (C : Ok X own cc) {κ cnt n : Nat} {i : Int32} {v : Int32} {len : (Nat → Nat) → Nat → Nat} (F : AG (xv X) κ cnt 0 len (none)) (hn : n < cnt) (hd : decode cc pc = .ok (.iastore, 1)) (kk : G X r0 ca sl (wI μ κ n i.toNatClampNeg v) (pc + 1) L st o) : G X r0 ca sl μ pc L (.int v :: .int i :: .ref (xa X κ n) :: st) (ckI i (len (μ.2.1 κ n) n) o) := by
  obtain ⟨p, l, e, R, s, m, args, below, meth, c, D, ad, ty, A, Q, nL, vv⟩ := X
  obtain ⟨hx, hb, hml, hown, hts, hK, hD, hA, hlk, hZ⟩ := C
  intro h H locs ls hP hS hl
  unfold ckI at h
  split at h
  case isFalse => cases h
  rename_i hi
  have Fq := F
  unfold AG at Fq
  dsimp only [xv] at Fq
  obtain ⟨q0, hq⟩ := cell_at Fq hn
  exact va_iast hx hb hK hP (hD μ) hS q0 0 (arr_at Fq hq) rfl hi hd (fun H1 locs1 hP1 hD1 hS1 => kk h H1 locs1 ls (by rw [arr_setI (kd_nodup vv) Fq hq] at hP1; exact hP1) hS1 hl)
theorem s_bast (C : Ok X own cc) {κ cnt n : Nat} {i : Int32} {v : Int32} {len : (Nat → Nat) → Nat → Nat} (F : AG (xv X) κ cnt 1 len (none)) (hn : n < cnt) (hd : decode cc pc = .ok (.bastore, 1)) (kk : G X r0 ca sl (wI μ κ n i.toNatClampNeg (vp_nar .byte v)) (pc + 1) L st o) : G X r0 ca sl μ pc L (.int v :: .int i :: .ref (xa X κ n) :: st) (ckI i (len (μ.2.1 κ n) n) o) := by
  obtain ⟨p, l, e, R, s, m, args, below, meth, c, D, ad, ty, A, Q, nL, vv⟩ := X
  obtain ⟨hx, hb, hml, hown, hts, hK, hD, hA, hlk, hZ⟩ := C
  intro h H locs ls hP hS hl
  unfold ckI at h
  split at h
  case isFalse => cases h
  rename_i hi
  have Fq := F
  unfold AG at Fq
  dsimp only [xv] at Fq
  obtain ⟨q0, hq⟩ := cell_at Fq hn
  exact va_bast hx hb hK hP (hD μ) hS q0 1 (arr_at Fq hq) rfl hi hd (fun H1 locs1 hP1 hD1 hS1 => kk h H1 locs1 ls (by rw [arr_setI (kd_nodup vv) Fq hq] at hP1; exact hP1) hS1 hl)
theorem s_zast (C : Ok X own cc) {κ cnt n : Nat} {i : Int32} {v : Int32} {len : (Nat → Nat) → Nat → Nat} (F : AG (xv X) κ cnt 2 len (none)) (hn : n < cnt) (hd : decode cc pc = .ok (.bastore, 1)) (kk : G X r0 ca sl (wI μ κ n i.toNatClampNeg (vp_nar .boolean v)) (pc + 1) L st o) : G X r0 ca sl μ pc L (.int v :: .int i :: .ref (xa X κ n) :: st) (ckI i (len (μ.2.1 κ n) n) o) := by
  obtain ⟨p, l, e, R, s, m, args, below, meth, c, D, ad, ty, A, Q, nL, vv⟩ := X
  obtain ⟨hx, hb, hml, hown, hts, hK, hD, hA, hlk, hZ⟩ := C
  intro h H locs ls hP hS hl
  unfold ckI at h
  split at h
  case isFalse => cases h
  rename_i hi
  have Fq := F
  unfold AG at Fq
  dsimp only [xv] at Fq
  obtain ⟨q0, hq⟩ := cell_at Fq hn
  exact va_zast hx hb hK hP (hD μ) hS q0 2 (arr_at Fq hq) rfl hi hd (fun H1 locs1 hP1 hD1 hS1 => kk h H1 locs1 ls (by rw [arr_setI (kd_nodup vv) Fq hq] at hP1; exact hP1) hS1 hl)
theorem s_last (C : Ok X own cc) {κ cnt n : Nat} {i : Int32} {v : Int64} {len : (Nat → Nat) → Nat → Nat} (F : AG (xv X) κ cnt 3 len (some none)) (hn : n < cnt) (hd : decode cc pc = .ok (.lastore, 1)) (kk : G X r0 ca sl (wJ μ κ n i.toNatClampNeg v) (pc + 1) L st o) : G X r0 ca sl μ pc L (.long v :: .int i :: .ref (xa X κ n) :: st) (ckI i (len (μ.2.1 κ n) n) o) := by
  obtain ⟨p, l, e, R, s, m, args, below, meth, c, D, ad, ty, A, Q, nL, vv⟩ := X
  obtain ⟨hx, hb, hml, hown, hts, hK, hD, hA, hlk, hZ⟩ := C
  intro h H locs ls hP hS hl
  unfold ckI at h
  split at h
  case isFalse => cases h
  rename_i hi
  have Fq := F
  unfold AG at Fq
  dsimp only [xv] at Fq
  obtain ⟨q0, hq⟩ := cell_at Fq hn
  exact va_last hx hb hK hP (hD μ) hS q0 3 (arr_at Fq hq) rfl hi hd (fun H1 locs1 hP1 hD1 hS1 => kk h H1 locs1 ls (by rw [arr_setJ (kd_nodup vv) Fq hq] at hP1; exact hP1) hS1 hl)
theorem s_acmp_ne (C : Ok X own cc) {i j : Nat} {off : Int} {tgt : Nat} (hi : i < 74) (hj : j < 74) (hd : decode cc pc = .ok (.if_acmp .ne off, 3)) (ht : (pc : Int) + off = (tgt : Int)) (k1 : ¬ i = j → G X r0 ca sl μ tgt L st o1) (k2 : ¬ (¬ i = j) → G X r0 ca sl μ (pc + 3) L st o2) : G X r0 ca sl μ pc L (.ref (xa X 50 j) :: .ref (xa X 50 i) :: st) (if ¬ i = j then o1 else o2) := by
  obtain ⟨p, l, e, R, s, m, args, below, meth, c, D, ad, ty, A, Q, nL, vv⟩ := X
  obtain ⟨hx, hb, hml, hown, hts, hK, hD, hA, hlk, hZ⟩ := C
  intro h H locs ls hP hS hl
  have inj : ad 50 i = ad 50 j → i = j := fun q => hZ.1.2 i j hi hj q
  by_cases q : i = j
  · subst q
    exact lv_acmp_ne (rx := some (ad 50 i)) (ry := some (ad 50 i)) hx hb hd ht (fun z => absurd rfl z) (fun z => k2 (fun w => w rfl) (by rw [if_neg (fun w => w rfl)] at h; exact h) H locs ls hP hS hl)
  · exact lv_acmp_ne (rx := some (ad 50 i)) (ry := some (ad 50 j)) hx hb hd ht (fun z => k1 q (by rw [if_pos q] at h; exact h) H locs ls hP hS hl) (fun z => absurd (inj (Option.some.inj z)) q)
theorem s_acmp_eq (C : Ok X own cc) {i j : Nat} {off : Int} {tgt : Nat} (hi : i < 74) (hj : j < 74) (hd : decode cc pc = .ok (.if_acmp .eq off, 3)) (ht : (pc : Int) + off = (tgt : Int)) (k1 : i = j → G X r0 ca sl μ tgt L st o1) (k2 : ¬ (i = j) → G X r0 ca sl μ (pc + 3) L st o2) : G X r0 ca sl μ pc L (.ref (xa X 50 j) :: .ref (xa X 50 i) :: st) (if i = j then o1 else o2) := by
  obtain ⟨p, l, e, R, s, m, args, below, meth, c, D, ad, ty, A, Q, nL, vv⟩ := X
  obtain ⟨hx, hb, hml, hown, hts, hK, hD, hA, hlk, hZ⟩ := C
  intro h H locs ls hP hS hl
  have inj : ad 50 i = ad 50 j → i = j := fun q => hZ.1.2 i j hi hj q
  by_cases q : i = j
  · subst q
    exact lv_acmp_eq (rx := some (ad 50 i)) (ry := some (ad 50 i)) hx hb hd ht (fun z => k1 rfl (by rw [if_pos rfl] at h; exact h) H locs ls hP hS hl) (fun z => absurd rfl z)
  · exact lv_acmp_eq (rx := some (ad 50 i)) (ry := some (ad 50 j)) hx hb hd ht (fun z => absurd (inj (Option.some.inj z)) q) (fun z => k2 q (by rw [if_neg q] at h; exact h) H locs ls hP hS hl)
theorem s_gsym (C : Ok X own cc) {ix i : Nat} {nmS : String} (hi : i < 74) (hn : syN.getD i "" = nmS) (hw : Cond.fieldLink own ix "PinEngines$Symbol" nmS "LPinEngines$Symbol;" ∈ tb) (hd : decode cc pc = .ok (.getstatic ix, 3)) (k : G X r0 ca sl μ (pc + 3) L (.ref (xa X 50 i) :: st) o) : G X r0 ca sl μ pc L st o := by
  obtain ⟨p, l, e, R, s, m, args, below, meth, c, D, ad, ty, A, Q, nL, vv⟩ := X
  obtain ⟨hx, hb, hml, hown, hts, hK, hD, hA, hlk, hZ⟩ := C
  intro h H locs ls hP hS hl
  subst hn
  exact va_gets hx hb (hZ.1.1 i hi).1 hS hown (hts _ hw) (fun _ h9 => h9) hd (k h H locs ls hP hS hl)
theorem s_symr (C : Ok X own cc) {ix i : Nat} (hi : i < 74) (hw : Cond.fieldLink own ix "PinEngines$Symbol" "roles" "I" ∈ tb) (hd : decode cc pc = .ok (.getfield ix, 3)) (k : G X r0 ca sl μ (pc + 3) L (.int (syR.getD i 0) :: st) o) : G X r0 ca sl μ pc L (.ref (xa X 50 i) :: st) o := by
  obtain ⟨p, l, e, R, s, m, args, below, meth, c, D, ad, ty, A, Q, nL, vv⟩ := X
  obtain ⟨hx, hb, hml, hown, hts, hK, hD, hA, hlk, hZ⟩ := C
  intro h H locs ls hP hS hl
  exact va_getE hx hb hZ.1 hi hS hown (q := ("PinEngines$Symbol", "roles", "I", syR)) (List.mem_cons_of_mem _ List.mem_cons_self) (hts _ hw) (fun _ h9 => h9) hd (k h H locs ls hP hS hl)
theorem s_symt (C : Ok X own cc) {ix i : Nat} (hi : i < 74) (hw : Cond.fieldLink own ix "PinEngines$Symbol" "text" "Ljava/lang/String;" ∈ tb) (hd : decode cc pc = .ok (.getfield ix, 3)) (k : G X r0 ca sl μ (pc + 3) L (.ref (xa X 51 (syT.getD i 0)) :: st) o) : G X r0 ca sl μ pc L (.ref (xa X 50 i) :: st) o := by
  obtain ⟨p, l, e, R, s, m, args, below, meth, c, D, ad, ty, A, Q, nL, vv⟩ := X
  obtain ⟨hx, hb, hml, hown, hts, hK, hD, hA, hlk, hZ⟩ := C
  intro h H locs ls hP hS hl
  exact va_getX hx hb hZ.2.1 hi hS hown (hts _ hw) (fun _ h9 => h9) hd (k h H locs ls hP hS hl)
theorem s_gmap (C : Ok X own cc) {ix : Nat} (hw : Cond.fieldLink own ix "PinEngines$1" "$SwitchMap$PinEngines$Symbol" "[I" ∈ tb) (hd : decode cc pc = .ok (.getstatic ix, 3)) (k : G X r0 ca sl μ (pc + 3) L (.ref (xa X 54 0) :: st) o) : G X r0 ca sl μ pc L st o := by
  obtain ⟨p, l, e, R, s, m, args, below, meth, c, D, ad, ty, A, Q, nL, vv⟩ := X
  obtain ⟨hx, hb, hml, hown, hts, hK, hD, hA, hlk, hZ⟩ := C
  intro h H locs ls hP hS hl
  exact va_gets hx hb hZ.2.2.2.2.1 hS hown (hts _ hw) (fun _ h9 => h9) hd (k h H locs ls hP hS hl)
theorem s_ldcw (C : Ok X own cc) {ix : Nat} {v : Int32} (hw : Cond.constant own ix v ∈ tb) (hd : decode cc pc = .ok (.ldc_w ix, 3)) (k : G X r0 ca sl μ (pc + 3) L (.int v :: st) o) : G X r0 ca sl μ pc L (st) o := by
  obtain ⟨p, l, e, R, s, m, args, below, meth, c, D, ad, ty, A, Q, nL, vv⟩ := X
  obtain ⟨hx, hb, hml, hown, hts, hK, hD, hA, hlk, hZ⟩ := C
  intro h H locs ls hP hS hl
  exact lv_ldcw hx hb hown (hts _ hw) hd (k h H locs ls hP hS hl)
theorem s_gall (C : Ok X own cc) {ix : Nat} (hw : Cond.fieldLink own ix "PinEngines$Symbol" "ALL" "[LPinEngines$Symbol;" ∈ tb) (hd : decode cc pc = .ok (.getstatic ix, 3)) (k : G X r0 ca sl μ (pc + 3) L (.ref (xa X 53 0) :: st) o) : G X r0 ca sl μ pc L st o := by
  obtain ⟨p, l, e, R, s, m, args, below, meth, c, D, ad, ty, A, Q, nL, vv⟩ := X
  obtain ⟨hx, hb, hml, hown, hts, hK, hD, hA, hlk, hZ⟩ := C
  intro h H locs ls hP hS hl
  exact va_gets hx hb hZ.2.2.1 hS hown (hts _ hw) (fun _ h9 => h9) hd (k h H locs ls hP hS hl)
theorem s_alll (C : Ok X own cc) (hd : decode cc pc = .ok (.arraylength, 1)) (k : G X r0 ca sl μ (pc + 1) L (.int 74 :: st) o) : G X r0 ca sl μ pc L (.ref (xa X 53 0) :: st) o := by
  obtain ⟨p, l, e, R, s, m, args, below, meth, c, D, ad, ty, A, Q, nL, vv⟩ := X
  obtain ⟨hx, hb, hml, hown, hts, hK, hD, hA, hlk, hZ⟩ := C
  intro h H locs ls hP hS hl
  exact va_tlen hx hb hZ.2.2.2.1 hS rfl hd (k h H locs ls hP hS hl)
theorem s_allld (C : Ok X own cc) {i : Int32} (hd : decode cc pc = .ok (.aaload, 1)) (k : ¬ (i < 0 ∨ 74 ≤ i.toNatClampNeg) → G X r0 ca sl μ (pc + 1) L (.ref (xa X 50 i.toNatClampNeg) :: st) o) : G X r0 ca sl μ pc L (.int i :: .ref (xa X 53 0) :: st) (ckI i 74 o) := by
  obtain ⟨p, l, e, R, s, m, args, below, meth, c, D, ad, ty, A, Q, nL, vv⟩ := X
  obtain ⟨hx, hb, hml, hown, hts, hK, hD, hA, hlk, hZ⟩ := C
  intro h H locs ls hP hS hl
  unfold ckI at h
  split at h
  case isFalse => cases h
  rename_i hi
  exact vb_tq hx hb hZ.2.2.2.1 hS hi rfl hd (k hi h H locs ls hP hS hl)
theorem s_mapld (C : Ok X own cc) {i : Int32} (hd : decode cc pc = .ok (.iaload, 1)) (k : G X r0 ca sl μ (pc + 1) L (.int (smL.getD i.toNatClampNeg 0) :: st) o) : G X r0 ca sl μ pc L (.int i :: .ref (xa X 54 0) :: st) (ckI i 74 o) := by
  obtain ⟨p, l, e, R, s, m, args, below, meth, c, D, ad, ty, A, Q, nL, vv⟩ := X
  obtain ⟨hx, hb, hml, hown, hts, hK, hD, hA, hlk, hZ⟩ := C
  intro h H locs ls hP hS hl
  unfold ckI at h
  split at h
  case isFalse => cases h
  rename_i hi
  exact va_ti hx hb hZ.2.2.2.2.2.1 hS hi rfl hd (k h H locs ls hP hS hl)
theorem s_lin (C : Ok X own cc) {dflt : Int} {ps : Array (Int × Int)} {len : Nat} {x v : Int32} {off : Int} {tgt : Nat} (hd : decode cc pc = .ok (.lookupswitch dflt ps, len)) (hv : x = v) (hp : (ps.toList.zip (ps.toList.drop 1)).all (fun (a, next) => a.1 < next.1) = true) (ho : Op.lookupswitch.offset ps.toList dflt v.toInt = off) (ht : (pc : Int) + off = (tgt : Int)) (k : G X r0 ca sl μ tgt L st o) : G X r0 ca sl μ pc L (.int x :: st) o := by
  obtain ⟨p, l, e, R, s, m, args, below, meth, c, D, ad, ty, A, Q, nL, vv⟩ := X
  obtain ⟨hx, hb, hml, hown, hts, hK, hD, hA, hlk, hZ⟩ := C
  intro h H locs ls hP hS hl
  subst hv
  exact lv_lookup hx hb hd hp ho ht (k h H locs ls hP hS hl)
theorem s_lout (C : Ok X own cc) {dflt : Int} {ps : Array (Int × Int)} {len : Nat} {x : Int32} {tgt : Nat} (hd : decode cc pc = .ok (.lookupswitch dflt ps, len)) (hp : (ps.toList.zip (ps.toList.drop 1)).all (fun (a, next) => a.1 < next.1) = true) (ho : ∀ q ∈ ps.toList, q.1 ≠ x.toInt) (ht : (pc : Int) + dflt = (tgt : Int)) (k : G X r0 ca sl μ tgt L st o) : G X r0 ca sl μ pc L (.int x :: st) o := by
  obtain ⟨p, l, e, R, s, m, args, below, meth, c, D, ad, ty, A, Q, nL, vv⟩ := X
  obtain ⟨hx, hb, hml, hown, hts, hK, hD, hA, hlk, hZ⟩ := C
  intro h H locs ls hP hS hl
  exact lv_lookup hx hb hd hp (lk_out ho) ht (k h H locs ls hP hS hl)
theorem s_mmin (C : Ok X own cc) {fr lo mcX msX ix : Nat} (E : Rm X fr lo mcX msX) {x y : Int32} (hw : Cond.methodLink own ix Lib.Math.min.name ∈ tb) (h1 : Cond.static Lib.Math.min.name ∈ tb) (h2 : Cond.initialized "java/lang/Math" ∈ tb) (h3 : Cond.code Lib.Math.min.name Lib.Math.min.code 2 (some .int) ∈ tb) (hroom : 1 ≤ fr ∧ (st.map fun v => v.category).sum + 15 ≤ lo ∧ ca ≤ mcX ∧ sl ≤ msX) (hd : decode cc pc = .ok (.invokestatic ix, 3)) (k : G X r0 ca sl μ (pc + 3) L (.int (if y < x then y else x) :: st) o) : G X r0 ca sl μ pc L (.int y :: .int x :: st) o := by
  obtain ⟨p, l, e, R, s, m, args, below, meth, c, D, ad, ty, A, Q, nL, vv⟩ := X
  obtain ⟨hx, hb, hml, hown, hts, hK, hD, hA, hlk, hZ⟩ := C
  have hRX : R = rm4 fr lo mcX msX := E
  subst hRX
  intro h H locs ls hP hS hl
  exact va_mmin hx hb (hml.trans hl.1.symm) hown (hts _ hw) (hts _ h1) (hts _ h2) (hts _ h3) hroom.1 (by have := hroom.2.1; show _ ≤ lo; omega) hroom.2.2.1 hroom.2.2.2 hd (k h H locs ls hP hS hl)
theorem s_mmax (C : Ok X own cc) {fr lo mcX msX ix : Nat} (E : Rm X fr lo mcX msX) {x y : Int32} (hw : Cond.methodLink own ix Lib.Math.max.name ∈ tb) (h1 : Cond.static Lib.Math.max.name ∈ tb) (h2 : Cond.initialized "java/lang/Math" ∈ tb) (h3 : Cond.code Lib.Math.max.name Lib.Math.max.code 2 (some .int) ∈ tb) (hroom : 1 ≤ fr ∧ (st.map fun v => v.category).sum + 15 ≤ lo ∧ ca ≤ mcX ∧ sl ≤ msX) (hd : decode cc pc = .ok (.invokestatic ix, 3)) (k : G X r0 ca sl μ (pc + 3) L (.int (if x < y then y else x) :: st) o) : G X r0 ca sl μ pc L (.int y :: .int x :: st) o := by
  obtain ⟨p, l, e, R, s, m, args, below, meth, c, D, ad, ty, A, Q, nL, vv⟩ := X
  obtain ⟨hx, hb, hml, hown, hts, hK, hD, hA, hlk, hZ⟩ := C
  have hRX : R = rm4 fr lo mcX msX := E
  subst hRX
  intro h H locs ls hP hS hl
  exact va_mmax hx hb (hml.trans hl.1.symm) hown (hts _ hw) (hts _ h1) (hts _ h2) (hts _ h3) hroom.1 (by have := hroom.2.1; show _ ≤ lo; omega) hroom.2.2.1 hroom.2.2.2 hd (k h H locs ls hP hS hl)
theorem s_mmin_long (C : Ok X own cc) {fr lo mcX msX ix : Nat} (E : Rm X fr lo mcX msX) {x y : Int64} (hw : Cond.methodLink own ix Lib.MathLoose.min_long.x ∈ tb) (h1 : Cond.static Lib.MathLoose.min_long.x ∈ tb) (h2 : Cond.initialized "java/lang/Math" ∈ tb) (h3 : Cond.code Lib.MathLoose.min_long.x Lib.MathLoose.min_long.code 4 (some .long) ∈ tb) (hroom : 1 ≤ fr ∧ (st.map fun v => v.category).sum + 15 ≤ lo ∧ ca ≤ mcX ∧ sl ≤ msX) (hd : decode cc pc = .ok (.invokestatic ix, 3)) (k : G X r0 ca sl μ (pc + 3) L (.long (if y < x then y else x) :: st) o) : G X r0 ca sl μ pc L (.long y :: .long x :: st) o := by
  obtain ⟨p, l, e, R, s, m, args, below, meth, c, D, ad, ty, A, Q, nL, vv⟩ := X
  obtain ⟨hx, hb, hml, hown, hts, hK, hD, hA, hlk, hZ⟩ := C
  have hRX : R = rm4 fr lo mcX msX := E
  subst hRX
  intro h H locs ls hP hS hl
  exact va_mmin_long hx hb (hml.trans hl.1.symm) hown (hts _ hw) (hts _ h1) (hts _ h2) (hts _ h3) hroom.1 (by have := hroom.2.1; show _ ≤ lo; omega) hroom.2.2.1 hroom.2.2.2 hd (k h H locs ls hP hS hl)
theorem s_mmax_long (C : Ok X own cc) {fr lo mcX msX ix : Nat} (E : Rm X fr lo mcX msX) {x y : Int64} (hw : Cond.methodLink own ix Lib.MathLoose.max_long.x ∈ tb) (h1 : Cond.static Lib.MathLoose.max_long.x ∈ tb) (h2 : Cond.initialized "java/lang/Math" ∈ tb) (h3 : Cond.code Lib.MathLoose.max_long.x Lib.MathLoose.max_long.code 4 (some .long) ∈ tb) (hroom : 1 ≤ fr ∧ (st.map fun v => v.category).sum + 15 ≤ lo ∧ ca ≤ mcX ∧ sl ≤ msX) (hd : decode cc pc = .ok (.invokestatic ix, 3)) (k : G X r0 ca sl μ (pc + 3) L (.long (if y < x then x else y) :: st) o) : G X r0 ca sl μ pc L (.long y :: .long x :: st) o := by
  obtain ⟨p, l, e, R, s, m, args, below, meth, c, D, ad, ty, A, Q, nL, vv⟩ := X
  obtain ⟨hx, hb, hml, hown, hts, hK, hD, hA, hlk, hZ⟩ := C
  have hRX : R = rm4 fr lo mcX msX := E
  subst hRX
  intro h H locs ls hP hS hl
  exact va_mmax_long hx hb (hml.trans hl.1.symm) hown (hts _ hw) (hts _ h1) (hts _ h2) (hts _ h3) hroom.1 (by have := hroom.2.1; show _ ≤ lo; omega) hroom.2.2.1 hroom.2.2.2 hd (k h H locs ls hP hS hl)
theorem s_mabs_long (C : Ok X own cc) {fr lo mcX msX ix : Nat} (E : Rm X fr lo mcX msX) {x : Int64} (hw : Cond.methodLink own ix Lib.MathLoose.abs_long.x ∈ tb) (h1 : Cond.static Lib.MathLoose.abs_long.x ∈ tb) (h2 : Cond.initialized "java/lang/Math" ∈ tb) (h3 : Cond.code Lib.MathLoose.abs_long.x Lib.MathLoose.abs_long.code 2 (some .long) ∈ tb) (hroom : 1 ≤ fr ∧ (st.map fun v => v.category).sum + 15 ≤ lo ∧ ca ≤ mcX ∧ sl ≤ msX) (hd : decode cc pc = .ok (.invokestatic ix, 3)) (k : G X r0 ca sl μ (pc + 3) L (.long (if 0 < x then x else -x) :: st) o) : G X r0 ca sl μ pc L (.long x :: st) o := by
  obtain ⟨p, l, e, R, s, m, args, below, meth, c, D, ad, ty, A, Q, nL, vv⟩ := X
  obtain ⟨hx, hb, hml, hown, hts, hK, hD, hA, hlk, hZ⟩ := C
  have hRX : R = rm4 fr lo mcX msX := E
  subst hRX
  intro h H locs ls hP hS hl
  exact va_mabs_long hx hb (hml.trans hl.1.symm) hown (hts _ hw) (hts _ h1) (hts _ h2) (hts _ h3) hroom.1 (by have := hroom.2.1; show _ ≤ lo; omega) hroom.2.2.1 hroom.2.2.2 hd (k h H locs ls hP hS hl)
theorem s_acopy (C : Ok X own cc) {fr lo mcX msX ix : Nat} (E : Rm X fr lo mcX msX) {κ κ2 cnt cnt2 n n2 : Nat} {len len2 : (Nat → Nat) → Nat → Nat} {sp dp ln : Int32} (hw : Cond.methodLink own ix arraycopyName ∈ tb) (h1 : Cond.native arraycopyName ∈ tb) (h2 : Cond.static arraycopyName ∈ tb) (h3 : Cond.initialized "java/lang/System" ∈ tb) (F : AG (xv X) κ cnt 0 len none) (F2 : AG (xv X) κ2 cnt2 0 len2 none) (hn : n < cnt) (hn2 : n2 < cnt2) (hroom : 1 ≤ fr ∧ (st.map fun v => v.category).sum + (nativeFrameWords "java/lang/System" "arraycopy" 5 + 11) ≤ lo) (hd : decode cc pc = .ok (.invokestatic ix, 3)) (k : G X r0 ca sl (wC μ κ n sp κ2 n2 dp ln) (pc + 3) L st o) : G X r0 ca sl μ pc L (.int ln :: .int dp :: .ref (xa X κ2 n2) :: .int sp :: .ref (xa X κ n) :: st) (ckC sp dp ln (len (μ.2.1 κ n) n) (len2 (μ.2.1 κ2 n2) n2) o) := by
  obtain ⟨p, l, e, R, s, m, args, below, meth, c, D, ad, ty, A, Q, nL, vv⟩ := X
  obtain ⟨hx, hb, hml, hown, hts, hK, hD, hA, hlk, hZ⟩ := C
  have hRX : R = rm4 fr lo mcX msX := E
  subst hRX
  intro h H locs ls hP hS hl
  unfold ckC at h
  split at h
  case isFalse => cases h
  rename_i hi
  obtain ⟨i1, i2, i3, i4, i5⟩ := hi
  have Fq := F
  unfold AG at Fq
  dsimp only [xv] at Fq
  obtain ⟨q0, hq⟩ := cell_at Fq hn
  have F2q := F2
  unfold AG at F2q
  dsimp only [xv] at F2q
  obtain ⟨q1, hq1⟩ := cell_at F2q hn2
  exact va_copyi hx hb (hml.trans hl.1.symm) hown (hts _ hw) (hts _ h1) (hts _ h2) (hts _ h3) hK hP (hD μ) hS q0 q1 0 0 (arr_at Fq hq) (arr_at F2q hq1) rfl rfl rfl i1 i2 i3 i4 i5 (fun _ _ => rfl) hroom.1 hroom.2 hd (fun H1 locs1 hP1 hD1 hS1 => k h H1 locs1 ls (by rw [arr_setC (kd_nodup vv) F2q hq1] at hP1; exact hP1) hS1 hl)
end Steps
