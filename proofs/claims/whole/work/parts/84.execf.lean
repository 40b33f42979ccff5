section
variable {p i e cnt a : Nat} {nx : Int32} {μ0 ν0 μ ν : Mem}
theorem c_uses (h : μ.2.1 9 a 0 = 30 + cnt) (hc : cnt ≤ 12) : fX2_usesPort a μ = some (if cnt < 11 then 0 else 1, μ) := by
  unfold fX2_usesPort
  simp only [jn_eq, nm_eq]
  rw [h, ckB_ok (show 30 + cnt < 74 by omega), ckB_ok (show 30 + cnt < 74 by omega)]
  by_cases h1 : cnt = 11
  · subst h1; rw [if_pos (by decide), if_neg (by decide)]; exact ckZ_ok (Or.inr rfl)
  · rw [if_neg (by omega)]
    by_cases h2 : cnt = 12
    · subst h2; rw [if_neg (fun q => q rfl), if_neg (by decide)]; exact ckZ_ok (Or.inr rfl)
    · rw [if_pos (by omega), if_pos (by omega)]; exact ckZ_ok (Or.inl rfl)
/-- the instruction's own work, class and model -/
theorem pr_exec (B : BS p i e cnt μ0 ν0) (h : RT i e cnt nx μ0 ν0 μ ν false) (ha : a < cnt) (hpc : μ.1 18 (4 * i + e) 0 = nI a) (hj : ν.1 26 0 19 = -1) {g : Int32} (hg : (g = 1 ∧ ν0.1 26 0 18 = nI e) ∨ (g = 0 ∧ ¬ ν0.1 26 0 18 = nI e)) (fu : Nat) :
    PR i e cnt nx μ0 ν0 (bnd (fX2_usesPort (33 * p + a) μ) fun x30 μ29 => if x30 = 0 then fX9_execute 0 (33 * p + a) (4 * i + e) (4 * p + e) μ29 else fX9_access 0 (33 * p + a) (4 * i + e) g μ29) (fX13_execute (fu + 33) 0 (nI e) ν) := by
  have he : e < 4 := B.1.2.2.1
  have hcn : cnt ≤ 32 := B.2.1.2.1
  obtain ⟨o, ho, p0, i0, hside, hdelay, hm⟩ := B.2.2.1 a ha
  have c0 : fX13_codeOf 0 (nI e) 0 ν = some (nI o, ν) := cd_of h he (a := a) (f := 0) (by omega) (by decide) hpc p0
  have cd1 : ∀ v, tN ν0 (284 + 6 * a + 1) = v → fX13_codeOf 0 (nI e) 1 ν = some (v, ν) := fun v hv => cd_of h he (a := a) (f := 1) (by omega) (by decide) hpc hv
  have cd2 : ∀ v, tN ν0 (284 + 6 * a + 2) = v → fX13_codeOf 0 (nI e) 2 ν = some (v, ν) := fun v hv => cd_of h he (a := a) (f := 2) (by omega) (by decide) hpc hv
  have cd3 : ∀ v, tN ν0 (284 + 6 * a + 3) = v → fX13_codeOf 0 (nI e) 3 ν = some (v, ν) := fun v hv => cd_of h he (a := a) (f := 3) (by omega) (by decide) hpc hv
  rw [c_uses ((rt_r h).trans i0) ho, bnd_some]
  unfold fX9_execute fX13_execute
  rw [nm_eq, ins_r h i0, ckB_ok (show 30 + o < 74 by omega)]
  have : o = 0 ∨ o = 1 ∨ o = 2 ∨ o = 3 ∨ o = 4 ∨ o = 5 ∨ o = 6 ∨ o = 7 ∨ o = 8 ∨ o = 9 ∨ o = 10 ∨ o = 11 ∨ o = 12 := by omega
  rcases this with rfl | rfl | rfl | rfl | rfl | rfl | rfl | rfl | rfl | rfl | rfl | rfl | rfl
  · obtain ⟨c, b, hc, hb, m1, m2, j1, j2, j3, j4, j5⟩ := hm
    rw [if_pos (by decide), sw_at (v := 1) (by decide), if_pos (by decide), cd1 _ m1, bnd_some, c0, bnd_some, if_pos (by decide), bnd_eta]
    exact pr_jump B h ha hpc hj hc hb m2 j2 j5
  · obtain ⟨aw, f, n, haw, hf, hn, m1, m2, m3, j1, j2, j3, j4, j5⟩ := hm
    rw [if_pos (by decide), sw_at (v := 2) (by decide), if_neg (by decide), if_pos (by decide), cd1 _ m1, bnd_some, c0, bnd_some, if_neg (by decide), if_pos (by decide), bnd_eta, bnd_eta]
    exact pr_wait B h ha hpc haw hf hn m2 m3 j1 j2 j5
  · obtain ⟨c, s, n, hp, hc, hn1, hn, m1, m2, j1, j2, j3, j4, j5⟩ := hm
    obtain ⟨v, v1, v2⟩ := pr_source B h hp (by omega) (fu + 16)
    rw [if_pos (by decide), sw_at (v := 3) (by decide), if_neg (by decide), if_neg (by decide), if_pos (by decide), cd1 _ m1, bnd_some, c0, bnd_some, if_neg (by decide), if_neg (by decide), if_pos (by decide), v2, bnd_some, cd2 _ m2, bnd_some, bnd_eta, bnd_eta]
    exact pr_shiftIn B h hn1 hn (pl_lt hp) j2 j5 v1
  · obtain ⟨c, s, n, hp, hc5, hc6, hn1, hn, m1, m2, j1, j2, j3, j4, j5⟩ := hm
    rw [if_pos (by decide), sw_at (v := 4) (by decide), if_neg (by decide), if_neg (by decide), if_neg (by decide), if_pos (by decide), cd1 _ m1, bnd_some, c0, bnd_some, if_neg (by decide), if_neg (by decide), if_neg (by decide), if_pos (by decide), cd2 _ m2, bnd_some, bnd_eta, bnd_eta]
    exact pr_shiftOut B h hn1 hn hp hc5 hc6 j2 j5 (fu + 25)
  · obtain ⟨x, y, hx, hy, m1, m2, j1, j2, j3, j4, j5⟩ := hm
    have := pr_push B h hx hy j2 j4
    rw [if_pos (by decide), sw_at (v := 5) (by decide), if_neg (by decide), if_neg (by decide), if_neg (by decide), if_neg (by decide), if_pos (by decide), cd1 _ m1, bnd_some, c0, bnd_some, if_neg (by decide), if_neg (by decide), if_neg (by decide), if_neg (by decide), if_pos (by decide), bnd_eta]
    simp only [jn_eq, cd2 _ m2, bnd_some, bnd_eta]
    have hx : x = 0 ∨ x = 1 := by omega
    have hy : y = 0 ∨ y = 1 := by omega
    rcases hx with rfl | rfl <;> rcases hy with rfl | rfl <;> exact this
  · obtain ⟨x, y, hx, hy, m1, m2, j1, j2, j3, j4, j5⟩ := hm
    have := pr_pull B h hx hy j2 j4 (fu + 25)
    rw [if_pos (by decide), sw_at (v := 6) (by decide), if_neg (by decide), if_neg (by decide), if_neg (by decide), if_neg (by decide), if_neg (by decide), if_pos (by decide), cd1 _ m1, bnd_some, c0, bnd_some, if_neg (by decide), if_neg (by decide), if_neg (by decide), if_neg (by decide), if_neg (by decide), if_pos (by decide), bnd_eta]
    simp only [jn_eq, cd2 _ m2, bnd_some, bnd_eta]
    have hx : x = 0 ∨ x = 1 := by omega
    have hy : y = 0 ∨ y = 1 := by omega
    rcases hx with rfl | rfl <;> rcases hy with rfl | rfl <;> exact this
  · obtain ⟨c, s, d, c2, s2, hp, hc3, hc6, hc7, hd, hp2, hc2, m1, m2, m3, j1, j2, j3, j4, j5⟩ := hm
    obtain ⟨v, v1, v2⟩ := pr_source B h hp2 hc2 (fu + 16)
    rw [if_pos (by decide), sw_at (v := 7) (by decide), if_neg (by decide), if_neg (by decide), if_neg (by decide), if_neg (by decide), if_neg (by decide), if_neg (by decide), if_pos (by decide), cd1 _ m1, bnd_some, c0, bnd_some, if_neg (by decide), if_neg (by decide), if_neg (by decide), if_neg (by decide), if_neg (by decide), if_neg (by decide), if_pos (by decide), cd2 _ m2, bnd_some, cd3 _ m3, bnd_some, v2, bnd_some, bnd_eta]
    exact pr_move (c2 := c2) B h hp hc6 hd (pl_lt hp2) j2 j3 j4 v1 fu
  · obtain ⟨n, hn, m1, j1, j2, j3, j4, j5⟩ := hm
    rw [if_pos (by decide), sw_at (v := 8) (by decide), if_neg (by decide), if_neg (by decide), if_neg (by decide), if_neg (by decide), if_neg (by decide), if_neg (by decide), if_neg (by decide), if_pos (by decide), cd1 _ m1, bnd_some, c0, bnd_some, if_neg (by decide), if_neg (by decide), if_neg (by decide), if_neg (by decide), if_neg (by decide), if_neg (by decide), if_neg (by decide), if_pos (by decide), nm_eq, nm_eq, ins_n h j5, h.2.2.2.2.2.1.1]
    exact pr_done rfl rfl (rt_true (rt_raise h))
  · obtain ⟨n, hn, m1, j1, j2, j3, j4, j5⟩ := hm
    rw [if_pos (by decide), sw_at (v := 9) (by decide), if_neg (by decide), if_neg (by decide), if_neg (by decide), if_neg (by decide), if_neg (by decide), if_neg (by decide), if_neg (by decide), if_neg (by decide), if_pos (by decide), cd1 _ m1, bnd_some, c0, bnd_some, if_neg (by decide), if_neg (by decide), if_neg (by decide), if_neg (by decide), if_neg (by decide), if_neg (by decide), if_neg (by decide), if_neg (by decide), if_pos (by decide), nm_eq, nm_eq, ins_n h j5, h.2.2.2.2.2.1.2]
    exact pr_done rfl rfl (rt_true (rt_clear h))
  · obtain ⟨n, hn, m1, j1, j2, j3, j4, j5⟩ := hm
    rw [if_pos (by decide), sw_at (v := 10) (by decide), if_neg (by decide), if_neg (by decide), if_neg (by decide), if_neg (by decide), if_neg (by decide), if_neg (by decide), if_neg (by decide), if_neg (by decide), if_neg (by decide), if_pos (by decide), cd1 _ m1, bnd_some, c0, bnd_some, if_neg (by decide), if_neg (by decide), if_neg (by decide), if_neg (by decide), if_neg (by decide), if_neg (by decide), if_neg (by decide), if_neg (by decide), if_neg (by decide), if_pos (by decide), bnd_eta, bnd_eta]
    exact pr_signal B h hn j5
  · obtain ⟨c, s, n, hp, hc, hn, m1, m2, j1, j2, j3, j4, j5⟩ := hm
    rw [if_pos (by decide), sw_at (v := 11) (by decide), if_neg (by decide), if_neg (by decide), if_neg (by decide), if_neg (by decide), if_neg (by decide), if_neg (by decide), if_neg (by decide), if_neg (by decide), if_neg (by decide), if_neg (by decide), if_pos (by decide), cd1 _ m1, bnd_some, c0, bnd_some, if_neg (by decide), if_neg (by decide), if_neg (by decide), if_neg (by decide), if_neg (by decide), if_neg (by decide), if_neg (by decide), if_neg (by decide), if_neg (by decide), if_neg (by decide), if_pos (by decide), cd2 _ m2, bnd_some, bnd_eta]
    exact pr_set B h hp hc j2 j5
  all_goals
    obtain ⟨c, s, b, hp, hc, hb, m1, m2, j1, j2, j3, j4, j5⟩ := hm
    rw [if_neg (by decide), cd1 _ m1, bnd_some, c0, bnd_some, if_neg (by decide), if_neg (by decide), if_neg (by decide), if_neg (by decide), if_neg (by decide), if_neg (by decide), if_neg (by decide), if_neg (by decide), if_neg (by decide), if_neg (by decide), if_neg (by decide)]
    simp only [jn_eq]
    rw [rt_pn h]
    rcases hg with ⟨rfl, hg⟩ | ⟨rfl, hg⟩
    · rw [if_neg (fun q => q hg), bnd_eta]
      first
        | exact pr_access B h ha hpc (o := 11) (Or.inl ⟨rfl, hc⟩) hp hb p0 m2 i0 j2 j4 j5 (fu + 16)
        | exact pr_access B h ha hpc (o := 12) (Or.inr ⟨rfl, hc⟩) hp hb p0 m2 i0 j2 j4 j5 (fu + 16)
    · rw [if_pos hg]
      refine pr_at (n := 4) (by decide) ?_ rfl (rt_true h)
      unfold fX9_access
      rw [if_neg nn0]
      rfl
end
