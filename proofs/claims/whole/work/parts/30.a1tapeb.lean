/-! STEPS THAT WRITE ON THE TAPE -/
/-- what putfield and getfield rest on -/
def FQ (own : String) (ix ci k : Nat) (t : FieldType) (fin : Bool) : Prop := ∃ (C : String) (T : u_T) (N : Nat) (ty0 : Nat → FieldType), vwCl[ci]? = some (C, T, N) ∧ (∀ w ∈ u_ws C T N, w ∈ tb) ∧ k < N ∧ Cond.fieldLink own ix (T k).1 (T k).2.1 (T k).2.2.1 ∈ tb ∧
  (∀ k, k < N → parseFieldDescriptor (T k).2.2.1 = some (ty0 k)) ∧ (∀ a, a < N → ∀ b, b < N → a ≠ b → (T a).2.1 ≠ (T b).2.1) ∧ (T k).2.2.2 = fin ∧ parseFieldDescriptor (T k).2.2.1 = some t ∧ (fin = true → (T k).1 = own)
section TapeWrites
variable {X : CX} {own : String} {cc : ByteArray} {ca sl b : Nat} {es es' : List va_E} {pc : Nat} {L L' : List (Nat × Value)} {st st' stk : List Value} {fr lo mc ms : Nat}
theorem t_put (C : OT X own cc b) {ix ci k : Nat} {t : FieldType} {fin : Bool} (F : FQ own ix ci k t fin) (hfi : fin = true → Ini X) (j : Nat) {fs : List Value} {v : Value} (he : es[j]? = some (.inr (ci, fs))) (hl : k < fs.length) (hn : narrow t v = v) (hf : fits t v = true) (hes : es.set j (.inr (ci, fs.set k v)) = es') (hd : decode cc pc = .ok (.putfield ix, 3))
    (kk : T1 X ca sl b es' (pc + 3) L st) : T1 X ca sl b es pc L (v :: .ref (b + j) :: st) := by
  obtain ⟨p, l, e, R, s, m, args, below, meth, c, D, ad, ty, A, Q, nL, vv⟩ := X
  obtain ⟨hx, hb, hml, hown, hts, hK, hA, hbs, hlk, hZ, hO⟩ := C
  obtain ⟨C0, T, N, ty0, f1, f2, f3, f4, f5, f6, f7, f8, f9⟩ := F
  intro H locs ls hP hz hS hl'
  obtain ⟨r, h1, cell, q1, q2, q3, q4⟩ := hP j _ (tp_get he)
  have hr : r = (C0, T, N) := Option.some.inj (h1.symm.trans f1)
  subst hr
  obtain ⟨hSl, hfc, kC, hkC, hkind⟩ := hK.1 ci _ f1
  obtain ⟨cf, kf, fi, f, hi, hsl⟩ := hSl k f3
  have hap := va_apart (own := own) hts f2 ty0 f5 f6 hK f1
  have hlay := hts _ (f2 _ (u_in_lay f3))
  unfold u_lay at hlay
  have hst := (u_facts hfc hkC (u_lays hts f2 f3) hi).1
  have key : ∀ H' : Heap, H'[b + j]? = some (cell.setSlot (D.2 ci k) v) → H'.size = H.size → (∀ q, q ≠ b + j → H'[q]? = H[q]?) → W p l e R s m args below meth c H' (locs ++ [⟨b + j, D.2 ci k⟩]) ca sl Q (F0 m (pc + 3) ls st) := by
    intro H' e1 e2 e3
    refine kk H' _ ls ?_ (by rw [e2, hz, ← hes, List.length_set]) (hS.put e2 e3 (hA _ (Nat.le_add_right _ _))) hl'
    rw [← hes, ← tp_set]
    exact hP.set (tp_D hA) (tp_get he) ⟨_, f1, t_OB.to (V := updV (vp_V fs) k v) ⟨_, e1, q2, q3, t_set q4 hap f3 v⟩ (fun i _ => vp_updV_set hl v i)⟩ e3
  cases fin with
  | false =>
    rw [if_neg (by rw [f7]; decide)] at hlay
    have h6 := u_store hfc hkC hkind hlay hi f8 hn hf
    refine W.putK hx hb (f := f) ⟨hown, hts _ f4, ⟨_, _, _, hi⟩, hst⟩ (by rw [q2]; exact h6) q1 q3 (by rw [hsl]; exact k2_hasslot (q4 k f3)) rfl rfl hd fun H' e1 e2 e3 => ?_
    rw [hsl] at e1 ⊢
    exact key H' e1 e2 e3
  | true =>
    rw [if_pos f7] at hlay
    have hcf : m.cls = cf := by
      obtain ⟨_, _, c', _, _, _, -, -, hf', -, -, -, hown2, -⟩ := Cond.laysFinal_spec hlay
      have e1 : c' = cf := by have := hi.symm.trans hf'; simp at this; exact this.1.symm
      rw [f9 rfl] at hown2
      rw [← e1]; exact Option.some.inj (hown.symm.trans hown2)
    have h6 := u_fits hfc hkC hkind (Or.inr hlay) hi f8 hn hf
    refine W.putFinK hx hb hown (hts _ f4) hi hst hcf (hfi rfl) (by rw [q2]; exact h6) q1 q3 (by rw [hsl]; exact k2_hasslot (q4 k f3)) rfl rfl hd fun H' e1 e2 e3 => ?_
    rw [hsl] at e1 ⊢
    exact key H' e1 e2 e3
theorem t_get (C : OT X own cc b) {ix ci k : Nat} {t : FieldType} {fin : Bool} (F : FQ own ix ci k t fin) (j : Nat) {fs : List Value} {v : Value} (he : es[j]? = some (.inr (ci, fs))) (hv : fs[k]? = some v) (hd : decode cc pc = .ok (.getfield ix, 3))
    (kk : T1 X ca sl b es (pc + 3) L (v :: st)) : T1 X ca sl b es pc L (.ref (b + j) :: st) := by
  obtain ⟨p, l, e, R, s, m, args, below, meth, c, D, ad, ty, A, Q, nL, vv⟩ := X
  obtain ⟨hx, hb, hml, hown, hts, hK, hA, hbs, hlk, hZ, hO⟩ := C
  obtain ⟨C0, T, N, ty0, f1, f2, f3, f4, f5, f6, f7, f8, f9⟩ := F
  intro H locs ls hP hz hS hl'
  exact va_get hx hb hts f2 hown hK hP j (tp_get he) f1 k f3 (hts _ f4) (fun _ h9 => h9) hv hd (kk H locs ls hP hz hS hl')
theorem t_iast (C : OT X own cc b) (j : Nat) {n : Nat} {f g : Nat → Int32} {i x : Int32} (he : es[j]? = some (.inl (xt X 0, n, .inl f))) (hin : vp_in i n) (hg : upd f i.toNatClampNeg x = g) (hes : es.set j (.inl (xt X 0, n, .inl g)) = es') (hd : decode cc pc = .ok (.iastore, 1))
    (kk : T1 X ca sl b es' (pc + 1) L st) : T1 X ca sl b es pc L (.int x :: .int i :: .ref (b + j) :: st) := by
  obtain ⟨p, l, e, R, s, m, args, below, meth, c, D, ad, ty, A, Q, nL, vv⟩ := X
  obtain ⟨hx, hb, hml, hown, hts, hK, hA, hbs, hlk, hZ, hO⟩ := C
  have he : es[j]? = some (.inl (ty 0, n, .inl f)) := he
  have hes : es.set j (.inl (ty 0, n, .inl g)) = es' := hes
  intro H locs ls hP hz hS hl'
  refine W.iast hx hb (hP j _ (tp_get he)) ((hK.2 0 (ty 0, .int) rfl).1 n (fun j => .int (f j))) (fun q => by cases q) (by show ¬ (i < 0 ∨ (arrV _ _ _).slots.size ≤ _); rw [arrV_size]; exact hin) rfl rfl hd fun H1 e1 z oq => ?_
  refine kk H1 _ ls ?_ (by rw [z, hz, ← hes, List.length_set]) (hS.put z oq (hA _ (Nat.le_add_right _ _))) hl'
  rw [← hes, ← tp_set, ← hg]
  refine hP.set (tp_D hA) (tp_get he) ?_ oq
  show H1[b + j]? = some (vp_cell _ _)
  rw [e1, vp_cell_i, vp_cell_i, arrV_store]
  congr 2
  funext q
  by_cases hq : q = i.toNatClampNeg
  · subst hq; simp [updV, upd]
  · simp [updV, upd, hq]
theorem t_aast (C : OT X own cc b) (j t0 : Nat) {E Cv : String} {n v : Nat} {f g : Nat → Option Nat} {i : Int32} (ht : ∀ ty : Nat → ClassId, (tys ty)[t0]? = some (ty t0, .object E)) (he : es[j]? = some (.inl (xt X t0, n, .inr (.inr (.inr (.inr f)))))) (hin : vp_in i n)
    (hr : ∀ (s : State) (H : Heap) (locs : List Loc) (D : va_G) (ad : Nat → Nat → Nat) (ty : Nat → ClassId) (A : Nat → Prop), xa X = ad → va_P D vwCl (tp b es) H → va_K D vwCl (tys ty) s → va_S A s.heap H locs → Cst ad A s s.heap → ∃ cellV : Cell, H[v]? = some cellV ∧ cellV.vm.isStatics = false ∧ s.vm.findClass Cv = some cellV.cls) (hEC : E = Cv)
    (hg : va_up f i.toNatClampNeg (some v) = g) (hes : es.set j (.inl (xt X t0, n, .inr (.inr (.inr (.inr g))))) = es') (hd : decode cc pc = .ok (.aastore, 1))
    (kk : T1 X ca sl b es' (pc + 1) L st) : T1 X ca sl b es pc L (.ref v :: .int i :: .ref (b + j) :: st) := by
  obtain ⟨p, l, e, R, s, m, args, below, meth, c, D, ad, ty, A, Q, nL, vv⟩ := X
  obtain ⟨hx, hb, hml, hown, hts, hK, hA, hbs, hlk, hZ, hO⟩ := C
  subst hEC
  have he : es[j]? = some (.inl (ty t0, n, .inr (.inr (.inr (.inr f))))) := he
  have hes : es.set j (.inl (ty t0, n, .inr (.inr (.inr (.inr g))))) = es' := hes
  intro H locs ls hP hz hS hl'
  have hlt : i.toNatClampNeg < n := Nat.not_le.mp fun q => hin (Or.inr q)
  have h0 : ¬ i < 0 := fun q => hin (Or.inl q)
  obtain ⟨cellV, g1, g3, g2⟩ := hr s H locs D ad ty A rfl hP hK hS hZ
  obtain ⟨kA, comp, k1, k2, k3, -⟩ := (hK.2 t0 _ (ht ty)).2
  obtain ⟨kE, hkE, -⟩ := Vm.findClass_spec k3
  obtain ⟨kC, hkC, -⟩ := Vm.findClass_spec g2
  refine W.aast hx hb (hP j _ (tp_get he)) (fun q h => by cases h) (fun h => by cases h) k1 k2 rfl hkE ⟨h0, by show _ < (arrV _ _ _).slots.size; rw [arrV_size]; exact hlt⟩ g1 (fun q h => by rw [h] at g3; cases g3) hkC (by rw [k3] at g2; cases g2; exact va_asg _ _) rfl rfl hd fun H1 e1 z oq => ?_
  refine kk H1 _ ls ?_ (by rw [z, hz, ← hes, List.length_set]) (hS.put z oq (hA _ (Nat.le_add_right _ _))) hl'
  rw [← hes, ← tp_set, ← hg]
  refine hP.set (tp_D hA) (tp_get he) ?_ oq
  show H1[b + j]? = some (vp_cell _ _)
  rw [e1, vp_cell_q, vp_cell_q, arrV_store]
  congr 2
  funext q
  by_cases hq : q = i.toNatClampNeg
  · subst hq; simp [updV, va_up, va_rf]
  · simp [updV, va_up, hq]
theorem t_newa (C : OT X own cc b) (hR : Rm X fr lo mc ms) {j : Nat} {at0 : ArrayType} {t0 N : Nat} {n : Int32} {a0 : vp_A} (harr : Cond.arrayClass (newarray.typeOf at0) ∈ tb) (ht : ∀ ty : Nat → ClassId, (tys ty)[t0]? = some (ty t0, newarray.typeOf at0)) (hra : ∀ (U : State) (cA : ClassId), va_RA U cA (newarray.typeOf at0) = (U.vm.findClass ("[" ++ (newarray.typeOf at0).toString) = some cA))
    (ha : ∀ cA : ClassId, vp_cell cA a0 = arrV cA N (fun _ => defaultValue (newarray.typeOf at0))) (hn : ¬ n < 0) (hN : n.toNatClampNeg = N) (hby : N * componentBytes (newarray.typeOf at0) ≤ 536870912) (h1 : ca + 1 ≤ mc) (h2 : sl + N ≤ ms) (hes : es ++ [.inl (xt X t0, a0)] = es') (hj : es.length = j) (hd : decode cc pc = .ok (.newarray at0, 2))
    (kk : T1 X (ca + 1) (sl + N) b es' (pc + 2) L (.ref (b + j) :: st)) : T1 X ca sl b es pc L (.int n :: st) := by
  obtain ⟨p, l, e, R, s, m, args, below, meth, c, D, ad, ty, A, Q, nL, vv⟩ := X
  obtain ⟨hx, hb, hml, hown, hts, hK, hA, hbs, hlk, hZ, hO⟩ := C
  have hRX : R = rm4 fr lo mc ms := hR
  subst hRX
  have hes : es ++ [.inl (ty t0, a0)] = es' := hes
  intro H locs ls hP hz hS hl'
  refine va_newaK hx hb (hts _ harr) rfl hd rfl hn hN hby h1 h2 rfl fun H1 cA e1 z1 o1 hAr hNm => ?_
  have hc : cA = ty t0 := by
    have h3 := (hK.2 t0 _ (ht ty)).2
    rw [hra] at h3
    exact Option.some.inj (hNm.symm.trans h3)
  subst hc
  have hH : H.size = b + j := by rw [hz, hj]
  rw [hH]
  refine kk H1 locs ls ?_ (by rw [z1, hz, ← hes, List.length_append]; rfl) (va_S_grow hS (by omega) o1) hl'
  rw [← hes]
  refine tp_push hz hP o1 ?_
  show H1[H.size]? = some (vp_cell _ _)
  rw [ha]
  exact e1
theorem t_newq (C : OT X own cc b) (hR : Rm X fr lo mc ms) {j ix t0 N : Nat} {Cn : String} {n : Int32} (hcl : Cond.classLink own ix Cn ∈ tb) (hao : Cn ∈ aoL) (ht : ∀ ty : Nat → ClassId, (tys ty)[t0]? = some (ty t0, .object Cn)) (hn : ¬ n < 0) (hN : n.toNatClampNeg = N) (hby : N * 4 ≤ 536870912) (h1 : ca + 1 ≤ mc) (h2 : sl + N ≤ ms)
    (hes : es ++ [.inl (xt X t0, N, .inr (.inr (.inr (.inr (fun _ => none)))))] = es') (hj : es.length = j) (hd : decode cc pc = .ok (.anewarray ix, 3))
    (kk : T1 X (ca + 1) (sl + N) b es' (pc + 3) L (.ref (b + j) :: st)) : T1 X ca sl b es pc L (.int n :: st) := by
  obtain ⟨p, l, e, R, s, m, args, below, meth, c, D, ad, ty, A, Q, nL, vv⟩ := X
  obtain ⟨hx, hb, hml, hown, hts, hK, hA, hbs, hlk, hZ, hO⟩ := C
  have hRX : R = rm4 fr lo mc ms := hR
  subst hRX
  subst hN
  have hes : es ++ [.inl (ty t0, n.toNatClampNeg, .inr (.inr (.inr (.inr (fun _ => none)))))] = es' := hes
  intro H locs ls hP hz hS hl'
  refine W.anew hx hb hown (hts _ hcl) (va_AO.use (hO _ hao)) rfl hd rfl hn hby h1 h2 fun cA kA comp f1 f2 f3 f4 => ?_
  generalize hH1 : H.push ({ cls := cA, slots := Array.replicate n.toNatClampNeg .null, vm := .none } : Cell) = H1
  have z1 : H1.size = H.size + 1 := by rw [← hH1, Array.size_push]
  have e1 : H1[H.size]? = some (arrV cA n.toNatClampNeg (fun _ => .null)) := by rw [← hH1, Array.getElem?_push_size, ← arrV_new]
  have o1 : ∀ q : Nat, q < H.size → H1[q]? = H[q]? := fun q hq => by rw [← hH1, Array.getElem?_push, if_neg (Nat.ne_of_lt hq)]
  have hc : cA = ty t0 := by
    obtain ⟨_, _, -, -, -, g4⟩ := (hK.2 t0 _ (ht ty)).2
    exact Option.some.inj (f1.symm.trans g4)
  subst hc
  have hH : H.size = b + j := by rw [hz, hj]
  show W p l e _ s m args below meth c H1 locs (ca + 1) (sl + n.toNatClampNeg) Q (F0 m (pc + 3) ls (.ref H.size :: st))
  rw [hH]
  refine kk H1 locs ls ?_ (by rw [z1, hz, ← hes, List.length_append]; rfl) (va_S_grow hS (by omega) o1) hl'
  rw [← hes]
  refine tp_push hz hP o1 ?_
  show H1[H.size]? = some (vp_cell _ _)
  rw [vp_cell_q]
  exact e1
/-- what new rests on -/
def NQ (own : String) (ix ci N : Nat) (fs : List Value) : Prop := ∃ (C : String) (T : u_T) (ty0 : Nat → FieldType), vwCl[ci]? = some (C, T, N) ∧ (∀ w ∈ u_ws C T N, w ∈ tb) ∧ (∀ k, k < N → parseFieldDescriptor (T k).2.2.1 = some (ty0 k)) ∧ Cond.classLink own ix C ∈ tb ∧ Cond.instantiable C N ∈ tb ∧ Cond.initialized C ∈ tb ∧ ∀ j, j < N → defaultValue (ty0 j) = vp_V fs j
theorem t_new (C : OT X own cc b) (hR : Rm X fr lo mc ms) {j ix ci N : Nat} {fs : List Value} (F : NQ own ix ci N fs) (h1 : ca + 1 ≤ mc) (h2 : sl + N ≤ ms) (hj : es.length = j) (hd : decode cc pc = .ok (.new ix, 3))
    (kk : T1 X (ca + 1) (sl + N) b (es ++ [.inr (ci, fs)]) (pc + 3) L (.ref (b + j) :: st)) : T1 X ca sl b es pc L st := by
  obtain ⟨p, l, e, R, s, m, args, below, meth, c, D, ad, ty, A, Q, nL, vv⟩ := X
  obtain ⟨hx, hb, hml, hown, hts, hK, hA, hbs, hlk, hZ, hO⟩ := C
  have hRX : R = rm4 fr lo mc ms := hR
  subst hRX
  obtain ⟨C0, T, ty0, f1, f2, f3, f4, f5, f6, f7⟩ := F
  intro H locs ls hP hz hS hl'
  have hKn := hK.1 ci _ f1
  refine W.newcK hx hb hown (hts _ f4) (hts _ f5) (hts _ f6) rfl hd h1 h2 hKn.2.1 rfl fun H1 kC hkC e1 z1 o1 => ?_
  have hH : H.size = b + j := by rw [hz, hj]
  have k2 := kk H1 locs ls (tp_push hz hP o1 ⟨_, f1, (u_born ty0 hts f2 hKn hkC e1 f3).to f7⟩) (by rw [z1, hz, List.length_append]; rfl) (va_S_grow hS (by omega) o1) hl'
  rw [← hH] at k2
  exact k2
/-- a call of a method that works on the tape's last cells -/
theorem run_goT {p : Program} {l : Launch} {e : Env} {R : Room} {s : State} {m : MethodId} {args : Array Value} {below : List Frame} {meth : Method} {c : Code} {H : Heap} {locs : List Loc} {cells slots : Nat} {Q : State → Prop} {pc : Nat} {ls : Array Slot} {rest st0 : List Value} {a : Array Value} {A : Nat → Prop} {mc ms : Nat} {D : va_G} {b j : Nat} {es fs fs' : List va_E}
    (hr : va_Run p l e R s m args below meth c H locs cells slots mc ms (F0 m pc ls st0) rest (KTQ D (b + j) fs' a) (fromB (b + j))) (hj : es.length = j) (hP : va_P D vwCl (tp b (es ++ fs)) H) (hS : va_S A s.heap H locs) (hA : ∀ q : Nat, b ≤ q → A q) (hz : H.size = b + (es ++ fs).length)
    (kk : ∀ (H1 : Heap) (locs1 : List Loc), va_P D vwCl (tp b (es ++ fs')) H1 → H1.size = b + (es ++ fs').length → va_S A s.heap H1 locs1 → W p l e R s m args below meth c H1 locs1 (cells + mc) (slots + ms) Q (F0 m (pc + 3) ls rest)) : W p l e R s m args below meth c H locs cells slots Q (F0 m pc ls st0) := by
  intro T hT X
  obtain ⟨v', st₀, t, T', L, h0, X', hL, e1, e2, ⟨hv, hz1, hP1, hf, hk⟩, st⟩ := hr T hT X
  cases hv
  rw [h0] at hf hk
  have hlen : (es ++ fs).length = j + fs.length := by rw [List.length_append, hj]
  obtain ⟨t2, a1, b1⟩ := kk T'.heap (locs ++ L) (by rw [e1]; exact tp_join hj hP (fun q hq => hk q (by omega) (by show ¬ b + j ≤ q; omega)) hP1) (by rw [e1, hz1, List.length_append, hj]; omega)
    ⟨Nat.le_trans hS.1 (by rw [e1]; exact hf), fun q h1 h2 => by rw [e1, hk q (Nat.lt_of_lt_of_le h1 hS.1) (fun z => h2 (hA q (by have : b + j ≤ q := z; omega)))]; exact hS.2.1 q h1 h2, fun q hq => by
      rcases List.mem_append.mp hq with h | h
      · exact hS.2.2 q h
      · exact hA _ (by have : b + j ≤ q.base := hL q h; omega)⟩ T' rfl X'
  exact ⟨t2, st t2 a1, b1⟩
theorem ktp_blind {D : va_G} {ad : Nat → Nat → Nat} {ty : Nat → ClassId} {av : List Value} : FrameBlind (KTP D ad ty b es av) := fun a U g mk q => by
  obtain ⟨q0, q1, qP, qK, qZ, qO⟩ := q
  exact ⟨q0, q1, qP, va_K.moved (u := U) (U := U.calling g mk a) (Vm.Alike.refl U.vm) qK, Cst.same (u := U) (U := U.calling g mk a) rfl qZ, fun C hC => va_AO.moved (Vm.Alike.refl U.vm) (qO C hC)⟩
theorem ktp_pre {s : State} {H : Heap} {locs : List Loc} {A : Nat → Prop} {D : va_G} {ad : Nat → Nat → Nat} {ty : Nat → ClassId} {av : List Value} {j : Nat} {fs : List va_E} (hj : es.length = j) (hP : va_P D vwCl (tp b (es ++ fs)) H) (hz : H.size = b + (es ++ fs).length) (hK : va_K D vwCl (tys ty) s) (hS : va_S A s.heap H locs) (hA : ∀ q : Nat, b ≤ q → A q) (hZ : Cst ad A s s.heap) (hO : ∀ C ∈ aoL, va_AO C s) : ∀ U : State, U.heap = H → s.WarmedH U.vm → KTP D ad ty (b + j) fs av av.toArray U := by
  intro U hU hW
  refine ⟨rfl, by rw [hU, hz, List.length_append, hj]; omega, by rw [hU]; exact tp_app hj hP, va_K.moved hW.alike hK, ?_, fun C hC => va_AO.moved hW.alike (hO C hC)⟩
  rw [hU]
  exact ((hZ.kept hS.2.1).narrow (fun q hq => hA q (by have : b + j ≤ q := hq; omega))).moved hW
theorem t_callI (C : OT X own cc b) (hR : Rm X fr lo mc ms) {y : MethodName} {bytes : ByteArray} {mL fr1 lo1 mc1 ms1 n ix j : Nat} {fs fs' : List va_E} {As : List Value} (hk : ∀ D : va_G, MTm (xl X) y bytes mL fr1 lo1 mc1 ms1 D (xa X) (xt X) (b + j) fs (.ref (b + j) :: As) fs') (hM : MM y bytes mL none n) (hy1 : y.name = "<init>") (hI : Cond.instanceMethod y ∈ tb) (hl : Cond.methodLink own ix y ∈ tb) (hj : es.length = j)
    (hstk : stk = As.reverse ++ .ref (b + j) :: st) (hn : As.length = n) (hst : (st.map fun v => v.category).sum ≤ 8) (hroom : fr1 + 1 ≤ fr ∧ 8 + (mL + 11) + lo1 ≤ lo ∧ ca + mc1 ≤ mc ∧ sl + ms1 ≤ ms) (hd : decode cc pc = .ok (.invokespecial ix, 3))
    (kk : T1 X (ca + mc1) (sl + ms1) b (es ++ fs') (pc + 3) L st) : T1 X ca sl b (es ++ fs) pc L stk := by
  obtain ⟨p, l, e, R, s, m, args, below, meth, c, D, ad, ty, A, Q, nL, vv⟩ := X
  obtain ⟨hx, hb, hml, hown, hts, hK, hA, hbs, hlk, hZ, hO⟩ := C
  have hRX : R = rm4 fr lo mc ms := hR
  obtain ⟨m1, m2, m3⟩ := hM
  subst hRX
  intro H locs ls hP hz hS hl'
  exact run_goT (va_runI (As := As) (rest := st) ⟨hx, hb, hml, hown, hts⟩ (hk D) (cwI n hts (tb_goodIn (wm_in m2)) rfl rfl rfl (hts _ m1) (hts _ hl) (hts _ hI) hy1 m3 ⟨hroom.1, hroom.2.1⟩) ⟨ktp_blind, ktp_pre hj hP hz hK hS hA hZ hO⟩ rfl hn hl'.1 hstk (lv_room hst) hd ⟨hroom.2.2.1, hroom.2.2.2⟩) hj hP hS hA hz (fun H1 locs1 hP1 hz1 hS1 => kk H1 locs1 ls hP1 hz1 hS1 hl')
theorem t_callIN {host : String} (C : OT X own cc b) (hR : Rm X fr lo mc ms) {y : MethodName} {bytes : ByteArray} {mL fr1 lo1 mc1 ms1 n ix j : Nat} {fs fs' : List va_E} {As : List Value} (hk : ∀ D : va_G, MTm (xl X) y bytes mL fr1 lo1 mc1 ms1 D (xa X) (xt X) (b + j) fs (.ref (b + j) :: As) fs') (hM : MM y bytes mL none n) (hy1 : y.name = "<init>") (hI : Cond.instanceMethod y ∈ tb) (hl : Cond.methodLinkNest own ix y host ∈ nwL) (hj : es.length = j)
    (hstk : stk = As.reverse ++ .ref (b + j) :: st) (hn : As.length = n) (hst : (st.map fun v => v.category).sum ≤ 8) (hroom : fr1 + 1 ≤ fr ∧ 8 + (mL + 11) + lo1 ≤ lo ∧ ca + mc1 ≤ mc ∧ sl + ms1 ≤ ms) (hd : decode cc pc = .ok (.invokespecial ix, 3))
    (kk : T1 X (ca + mc1) (sl + ms1) b (es ++ fs') (pc + 3) L st) : T1 X ca sl b (es ++ fs) pc L stk := by
  obtain ⟨p, l, e, R, s, m, args, below, meth, c, D, ad, ty, A, Q, nL, vv⟩ := X
  obtain ⟨hx, hb, hml, hown, hts, hK, hA, hbs, hlk, hZ, hO⟩ := C
  have hRX : R = rm4 fr lo mc ms := hR
  obtain ⟨m1, m2, m3⟩ := hM
  subst hRX
  intro H locs ls hP hz hS hl'
  exact run_goT (va_runIN (As := As) (rest := st) ⟨hx, hb, hml, hown, hts⟩ (hk D) ⟨va_cnB (host := host) n hts (tb_goodIn (wm_in m2)) rfl rfl rfl (hZ.2.2.2.2.2.2.2.2.2.2.2 _ hl) (hts _ m1) m3 ⟨hroom.1, hroom.2.1⟩, hy1, hts _ hI⟩ ⟨ktp_blind, ktp_pre hj hP hz hK hS hA hZ hO⟩ rfl hn hl'.1 hstk (lv_room hst) hd ⟨hroom.2.2.1, hroom.2.2.2⟩) hj hP hS hA hz (fun H1 locs1 hP1 hz1 hS1 => kk H1 locs1 ls hP1 hz1 hS1 hl')
theorem t_callS (C : OT X own cc b) (hR : Rm X fr lo mc ms) {y : MethodName} {bytes : ByteArray} {mL fr1 lo1 mc1 ms1 n ix : Nat} {es2 : List va_E} {As : List Value} (hk : ∀ D : va_G, MTm (xl X) y bytes mL fr1 lo1 mc1 ms1 D (xa X) (xt X) (b + 0) es As es2) (hM : MM y bytes mL none n) (hI : Cond.static y ∈ tb) (hl : Cond.methodLink own ix y ∈ tb)
    (hstk : stk = As.reverse ++ st) (hn : As.length = n) (hst : (st.map fun v => v.category).sum ≤ 8) (hroom : fr1 + 1 ≤ fr ∧ 8 + (mL + 11) + lo1 ≤ lo ∧ ca + mc1 ≤ mc ∧ sl + ms1 ≤ ms) (hd : decode cc pc = .ok (.invokestatic ix, 3))
    (kk : T1 X (ca + mc1) (sl + ms1) b es2 (pc + 3) L st) : T1 X ca sl b es pc L stk := by
  obtain ⟨p, l, e, R, s, m, args, below, meth, c, D, ad, ty, A, Q, nL, vv⟩ := X
  obtain ⟨hx, hb, hml, hown, hts, hK, hA, hbs, hlk, hZ, hO⟩ := C
  have hRX : R = rm4 fr lo mc ms := hR
  obtain ⟨m1, m2, m3⟩ := hM
  subst hRX
  intro H locs ls hP hz hS hl'
  exact run_goT (es := []) (va_runS (As := As) (rest := st) ⟨hx, hb, hml, hown, hts⟩ (hk D) ⟨callB_of n hts (tb_goodIn (wm_in m2)) rfl rfl rfl (hts _ m1) (hts _ hl) m3 ⟨hroom.1, hroom.2.1⟩, hts _ hI⟩ ⟨ktp_blind, ktp_pre (es := []) rfl hP hz hK hS hA hZ hO⟩ rfl hn hl'.1 hstk (lv_room hst) hd ⟨hroom.2.2.1, hroom.2.2.2⟩) rfl hP hS hA hz (fun H1 locs1 hP1 hz1 hS1 => kk H1 locs1 ls hP1 hz1 hS1 hl')
/-- a method of the tape's last object -/
theorem t_callV (C : OT X own cc b) (hR : Rm X fr lo mc ms) {y : MethodName} {bytes : ByteArray} {mL fr1 lo1 mc1 ms1 n ix j ci : Nat} {T : u_T} {N : Nat} {fs0 : List Value} {fs fs' : List va_E} {As : List Value} (hk : ∀ D : va_G, MTm (xl X) y bytes mL fr1 lo1 mc1 ms1 D (xa X) (xt X) (b + j) fs (.ref (b + j) :: As) fs') (hM : MM y bytes mL none n) (hI : MI y) (hl : Cond.methodLink own ix y ∈ tb) (hj : es.length = j) (hf : fs[0]? = some (.inr (ci, fs0))) (hc : vwCl[ci]? = some (y.cls, T, N))
    (hstk : stk = As.reverse ++ .ref (b + j) :: st) (hn : As.length = n) (hst : (st.map fun v => v.category).sum ≤ 8) (hroom : fr1 + 1 ≤ fr ∧ 8 + (mL + 11) + lo1 ≤ lo ∧ ca + mc1 ≤ mc ∧ sl + ms1 ≤ ms) (hd : decode cc pc = .ok (.invokevirtual ix, 3))
    (kk : T1 X (ca + mc1) (sl + ms1) b (es ++ fs') (pc + 3) L st) : T1 X ca sl b (es ++ fs) pc L stk := by
  obtain ⟨p, l, e, R, s, m, args, below, meth, c, D, ad, ty, A, Q, nL, vv⟩ := X
  obtain ⟨hx, hb, hml, hown, hts, hK, hA, hbs, hlk, hZ, hO⟩ := C
  have hRX : R = rm4 fr lo mc ms := hR
  obtain ⟨m1, m2, m3⟩ := hM
  subst hRX
  intro H locs ls hP hz hS hl'
  have hrec := va_recv hK hP hc (tp_get (b := b) (k := j) (es := es ++ fs) (by rw [List.getElem?_append_right (by omega), hj, Nat.sub_self]; exact hf))
  refine run_goT (va_runV (As := As) (rest := st) ⟨hx, hb, hml, hown, hts⟩ (hk D) (cwV n hts (tb_goodIn (fun w hw => ?_)) rfl rfl rfl ⟨rfl, m3⟩ ⟨hroom.1, hroom.2.1⟩) ⟨ktp_blind, hrec, ktp_pre hj hP hz hK hS hA hZ hO⟩ rfl hn hl'.1 hstk (lv_room hst) hd ⟨hroom.2.2.1, hroom.2.2.2⟩) hj hP hS hA hz (fun H1 locs1 hP1 hz1 hS1 => kk H1 locs1 ls hP1 hz1 hS1 hl')
  rcases List.mem_append.mp hw with e1 | e1
  · simp only [List.mem_cons, List.not_mem_nil, or_false] at e1
    rcases e1 with e2 | e2 | e2 | e2
    · rw [e2]; exact hl
    · rw [e2]; exact hI.1
    · rw [e2]; exact hI.2
    · rw [e2]; exact m1
  · exact wm_in m2 w e1
end TapeWrites
