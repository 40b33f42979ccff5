/-! THE BUILDER'S READING METHODS -/
theorem q708 : (Cond.superclass "java/lang/StringBuilder" "java/lang/AbstractStringBuilder") ∈ tb := tb_at 708 (by decide +kernel) rfl
theorem q2882 : (Cond.sameMethod "java/lang/AbstractStringBuilder" "java/lang/AbstractStringBuilder" "length" "()I") ∈ tb := tb_at 2882 (by decide +kernel) rfl
theorem inJ4 : ∀ w ∈ u_ws RJ4 TJ4 4, w ∈ tb := u_in (fun k hk => match k, hk with
  | 0, _ => q700
  | 1, _ => q702
  | 2, _ => q704
  | 3, _ => q706
  | _ + 4, hk => absurd hk (by omega))
theorem fgJ5_79_32 (vv : Nat) : FG vv RJ5 79 32 1 3 (none) := ⟨1, _, RJ4, TJ4, kk32 _, rfl, inJ4, rfl, q699⟩
theorem mmJ5_length_8abf5 : MM yJ5_length_8abf5 cJ5_length_8abf5 1 (some .int) 0 := ⟨q168, q833, by decide +kernel, by decide +kernel, by decide +kernel⟩
theorem kJ5_length_8abf5 (l : Launch) : Kon 0 l yJ5_length_8abf5 cJ5_length_8abf5 1 (some .int) 0 0 0 0 (fun ad => [.ref (ad 32 0)]) rvI (fun μ => some (μ.1 32 0 3, μ)) := by
  refine kon_of (by decide) (fun _ => Nat.le_of_ble_eq_true rfl) (fun X r0 μ hXl hXn V C E => ?_)
  have hN : ∀ i : Nat, i < 1 → i < xn X := fun i h => hXn.symm ▸ h
  have R0 := fen_rm E
  show G X r0 0 0 μ 0 [(0, .ref (xa X 32 0))] [] (some (μ.1 32 0 3, μ))
  refine s_aload_n C dJ5_length_8abf5_0 rfl 0 rfl ?_
  refine s_getI C (fgJ5_79_32 _) (by decide) dJ5_length_8abf5_1 ?_
  exact s_iret C E dJ5_length_8abf5_4
theorem kJ4_length_8abf5 (l : Launch) : Kon 0 l yJ4_length_8abf5 cJ4_length_8abf5 1 (some .int) 1 20 0 0 (fun ad => [.ref (ad 32 0)]) rvI (fun μ => some (μ.1 32 0 3, μ)) := by
  refine kon_of (by decide) (fun _ => Nat.le_of_ble_eq_true rfl) (fun X r0 μ hXl hXn V C E => ?_)
  have hN : ∀ i : Nat, i < 1 → i < xn X := fun i h => hXn.symm ▸ h
  have R0 := fen_rm E
  show G X r0 0 0 μ 0 [(0, .ref (xa X 32 0))] [] (some (μ.1 32 0 3, μ))
  refine s_aload_n C dJ4_length_8abf5_0 rfl 0 rfl ?_
  refine b_call (r := μ.1 32 0 3) (μ' := μ) rfl (s_callSU (n := 0) C R0 (kJ5_length_8abf5 (xl X)) (Nat.zero_le _) (mmJ5_length_8abf5) q832 q2882 q708 (by decide) q831 rfl rfl rfl (Nat.le_of_ble_eq_true rfl) ⟨Nat.le_of_ble_eq_true rfl, Nat.le_of_ble_eq_true rfl, Nat.le_of_ble_eq_true rfl, Nat.le_of_ble_eq_true rfl⟩ dJ4_length_8abf5_1 (fun r2 μ2 hq => ?_))
  obtain ⟨e2, e3⟩ := grd_inv hq
  cases e2
  exact s_iret C E dJ4_length_8abf5_4 e3
