/-! the reference: what is told -/
theorem mo_stile {μ : Blk} {G : NB} {N : Nat} (M : Mod (μ 1) 0 G) (Wf : WF N G) (v : Int32) : f_X6_isStile μ v = true ↔ ∃ k : Nat, k < G 0 0 ∧ v = nI k := by
  have hm := Wf.2.1.1
  have m0 : μ 1 3 = nI (G 0 0) := by simpa using M.1.2.2.2
  unfold f_X6_isStile lt f_X6_in
  simp only []
  rw [m0]
  constructor
  · intro h
    by_cases h1 : v < 0
    · rw [if_pos h1] at h; cases h
    · rw [if_neg h1] at h
      obtain ⟨j, hj, rfl⟩ := nI_of h1
      by_cases z : G 0 0 = 0
      · rw [z] at h
        rw [if_pos (by
          rw [Int32.lt_iff_toInt_lt, nI_toInt hj, show (nI 0 - 1).toInt = -1 by decide]
          omega)] at h
        cases h
      · rw [e1, nI_sub (by omega)] at h
        by_cases c : G 0 0 - 1 < j
        · rw [if_pos (nI_lt c (by omega))] at h; cases h
        · exact ⟨j, by omega, rfl⟩
  · rintro ⟨k, hk, rfl⟩
    rw [if_neg (nI_pos (by omega)), e1, nI_sub (by omega), if_neg (nI_nlt (by omega) (by omega))]
theorem st_eq {σ μ : Blk} {G : NB} {N : Nat} (C : Cls σ G) (M : Mod (μ 1) 0 G) (Wf : WF N G) (v : Int32) : f_X4_hasStile σ v = f_X6_isStile μ v := by
  have a := cl_has C Wf v
  have b := mo_stile M Wf v
  cases h1 : f_X4_hasStile σ v <;> cases h2 : f_X6_isStile μ v
  · rfl
  · exact absurd (a.mpr (b.mp h2)) (by rw [h1]; decide)
  · exact absurd (b.mpr (a.mp h1)) (by rw [h2]; decide)
  · rfl
theorem mo_told {μ : Blk} {G : NB} {N : Nat} (M : Mod (μ 1) 0 G) (Wf : WF N G) {h : Nat} (hh : h < 6) (own : Bool) : f_X6_told μ (nI h) own = some (cond own (tlO G h (G 0 0)) (tlF G h (G 0 0))) := by
  have hm := Wf.2.1.1
  have m0 : μ 1 3 = nI (G 0 0) := by simpa using M.1.2.2.2
  have key : ∀ (d j n : Nat), j + d = G 0 0 → d < n → f_X6_told_L5 μ (nI h) own n (cond own (tlO G h j) (tlF G h j)) (nI j) = some (cond own (tlO G h (G 0 0)) (tlF G h (G 0 0))) := by
    intro d
    induction d with
    | zero =>
      intro j n hj hn
      obtain ⟨n, rfl⟩ : ∃ m, n = m + 1 := ⟨n - 1, by omega⟩
      rw [f_X6_told_L5, m0, if_pos (nI_le (by omega) (by omega)), show j = G 0 0 by omega]
    | succ d ih =>
      intro j n hj hn
      obtain ⟨n, rfl⟩ : ∃ m, n = m + 1 := ⟨n - 1, by omega⟩
      have j0 : j < G 0 0 := by omega
      have j12 : j < 12 := by omega
      have w := Wf.2.2.2.1 j j12
      have hne := Wf.2.2.2.2.1 j j0
      have m := M.2.2.1 j j0
      have i := ih (j + 1) n (by omega) (by omega)
      rw [f_X6_told_L5, m0, if_neg (nI_ge (by omega) (by omega))]
      simp only [lt, e0, e1, e2, e3, mo_place, nI_add]
      simp (disch := omega) only [ib_nI, nI_clamp, if_true, m.1, m.2.1, nI_eq, mo_counted M (Nat.zero_le _) j0 j12 (show 0 < 4 by decide), mo_counted M (Nat.zero_le _) j0 j12 (show 1 < 4 by decide), mo_counted M (Nat.zero_le _) j0 j12 (show 2 < 4 by decide), mo_counted M (Nat.zero_le _) j0 j12 (show 3 < 4 by decide), Option.bind_some]
      simp only [tlO, tlF, cd] at i
      by_cases a : G 3 j = h
      · have b : ¬ G 4 j = h := by omega
        cases own
        · simpa [a, b] using i
        · simpa [a, b] using i
      · by_cases b : G 4 j = h
        · cases own
          · simpa [a, b] using i
          · simpa [a, b] using i
        · cases own
          · simpa [a, b] using i
          · simpa [a, b] using i
  unfold f_X6_told
  have := key (G 0 0) 0 FU (by omega) (FU_big (by omega))
  rw [show cond own (tlO G h 0) (tlF G h 0) = 0 by cases own <;> rfl, ← e0] at this
  exact this
theorem mo_allTold {μ : Blk} {G : NB} {N : Nat} (M : Mod (μ 1) 0 G) (Wf : WF N G) (own : Bool) : f_X6_allTold μ own = some (0 + cond own (tlO G 1 (G 0 0)) (tlF G 1 (G 0 0)) + cond own (tlO G 2 (G 0 0)) (tlF G 2 (G 0 0)) + cond own (tlO G 3 (G 0 0)) (tlF G 3 (G 0 0)) + cond own (tlO G 4 (G 0 0)) (tlF G 4 (G 0 0)) + cond own (tlO G 5 (G 0 0)) (tlF G 5 (G 0 0))) := by
  unfold f_X6_allTold
  obtain ⟨n, hn⟩ := FU_s 6 (by decide)
  rw [hn]
  rw [show n + 6 = (n + 5) + 1 from rfl, f_X6_allTold_L4, if_neg (by decide), e1, mo_told M Wf (by decide), Option.bind_some, nI_add]
  rw [show n + 5 = (n + 4) + 1 from rfl, f_X6_allTold_L4, if_neg (by decide), mo_told M Wf (by decide), Option.bind_some, nI_1]
  rw [show n + 4 = (n + 3) + 1 from rfl, f_X6_allTold_L4, if_neg (by decide), mo_told M Wf (by decide), Option.bind_some, nI_1]
  rw [show n + 3 = (n + 2) + 1 from rfl, f_X6_allTold_L4, if_neg (by decide), mo_told M Wf (by decide), Option.bind_some, nI_1]
  rw [show n + 2 = (n + 1) + 1 from rfl, f_X6_allTold_L4, if_neg (by decide), mo_told M Wf (by decide), Option.bind_some, nI_1]
  rw [f_X6_allTold_L4, if_pos (by decide)]
theorem mo_stilesOf {μ : Blk} {G : NB} {N : Nat} (M : Mod (μ 1) 0 G) (Wf : WF N G) {h : Nat} (hh : h < 6) : f_X6_stilesOf μ (nI h) = some (nI (cnt (fun k => decide (G 3 k = h) || decide (G 4 k = h)) (G 0 0))) := by
  have hm := Wf.2.1.1
  have m0 : μ 1 3 = nI (G 0 0) := by simpa using M.1.2.2.2
  have key : ∀ (d j n : Nat), j + d = G 0 0 → d < n → f_X6_stilesOf_L4 μ (nI h) n (nI (cnt (fun k => decide (G 3 k = h) || decide (G 4 k = h)) j)) (nI j) = some (nI (cnt (fun k => decide (G 3 k = h) || decide (G 4 k = h)) (G 0 0))) := by
    intro d
    induction d with
    | zero =>
      intro j n hj hn
      obtain ⟨n, rfl⟩ : ∃ m, n = m + 1 := ⟨n - 1, by omega⟩
      rw [f_X6_stilesOf_L4, m0, if_pos (nI_le (by omega) (by omega)), show j = G 0 0 by omega]
    | succ d ih =>
      intro j n hj hn
      obtain ⟨n, rfl⟩ : ∃ m, n = m + 1 := ⟨n - 1, by omega⟩
      have j0 : j < G 0 0 := by omega
      have j12 : j < 12 := by omega
      have w := Wf.2.2.2.1 j j12
      have m := M.2.2.1 j j0
      have i := ih (j + 1) n (by omega) (by omega)
      rw [f_X6_stilesOf_L4, m0, if_neg (nI_ge (by omega) (by omega))]
      simp only [lt, e0, e1, mo_place, nI_add]
      simp (disch := omega) only [ib_nI, nI_clamp, if_true, m.1, m.2.1, nI_eq]
      simp only [cnt] at i
      by_cases a : G 3 j = h
      · simpa [a] using i
      · by_cases b : G 4 j = h
        · simpa [a, b] using i
        · simpa [a, b] using i
  unfold f_X6_stilesOf
  have := key (G 0 0) 0 FU (by omega) (FU_big (by omega))
  simp only [cnt] at this
  rw [← e0] at this
  exact this
theorem mo_fullest {μ : Blk} {G : NB} {N : Nat} (M : Mod (μ 1) 0 G) (Wf : WF N G) : f_X6_fullest μ = some (nI (ful G 6)) := by
  have key : ∀ (d h n : Nat), h + d = 6 → 2 ≤ h → d < n → f_X6_fullest_L4 μ n (nI (ful G h)) (nI h) = some (nI (ful G 6)) := by
    intro d
    induction d with
    | zero =>
      intro h n hh h2 hn
      obtain ⟨n, rfl⟩ : ∃ m, n = m + 1 := ⟨n - 1, by omega⟩
      rw [show h = 6 by omega, f_X6_fullest_L4, if_pos (by decide)]
    | succ d ih =>
      intro h n hh h2 hn
      obtain ⟨n, rfl⟩ : ∃ m, n = m + 1 := ⟨n - 1, by omega⟩
      have fi := ful_in G h (by omega)
      have w1 := Wf.2.2.1 h (by omega) (by omega)
      have w2 := Wf.2.2.1 (ful G h) fi.1 fi.2
      have m1 := M.2.1 h (by omega) (by omega)
      have m2 := M.2.1 (ful G h) fi.1 fi.2
      simp only [Nat.zero_add] at m1 m2
      have i := ih (h + 1) n (by omega) (by omega) (by omega)
      rw [f_X6_fullest_L4, e6, if_neg (nI_ge (by omega) (by decide))]
      simp only [e4, e10, e1, nI_add]
      simp (disch := omega) only [ib_nI, nI_clamp, if_true, m1.1, m1.2, m2.1, m2.2]
      rw [nI_sub w1.2.2, nI_sub w2.2.2]
      have il : ful G (h + 1) = (if lft G h < lft G (ful G h) then h else ful G h) := by
        simp only [ful]; rw [if_neg (by omega)]
      rw [il] at i
      unfold lft at i
      by_cases c : G 1 h - G 2 h < G 1 (ful G h) - G 2 (ful G h)
      · rw [if_pos c] at i
        rw [if_neg (nI_ge c (by omega))]
        exact i
      · rw [if_neg c] at i
        rw [if_pos (nI_le (by omega) (by omega))]
        exact i
  unfold f_X6_fullest
  rw [e1, e2]
  exact key 4 2 FU rfl (by decide) (FU_big (by decide))
/-- the slips of one stile -/
def sl4 (G : NB) (k : Nat) : Nat := cnt (fun c => decide (0 < G 8 (k * 4 + c))) 4
theorem mo_sl4 {μ : Blk} {G : NB} {N : Nat} (M : Mod (μ 1) 0 G) (Wf : WF N G) (x1 x2 x3 : Int32) {k : Nat} (hk : k < G 0 0) (h12 : k < 12) : f_X6_sumOf_I27 μ x1 x2 x3 (nI (0 + 16 + 20 * k)) FU 0 0 = some (nI (sl4 G k)) := by
  have key : ∀ (d c n : Nat), c + d = 4 → d < n → f_X6_sumOf_I27 μ x1 x2 x3 (nI (0 + 16 + 20 * k)) n (nI (cnt (fun c => decide (0 < G 8 (k * 4 + c))) c)) (nI c) = some (nI (sl4 G k)) := by
    intro d
    induction d with
    | zero =>
      intro c n hc hn
      obtain ⟨n, rfl⟩ : ∃ m, n = m + 1 := ⟨n - 1, by omega⟩
      rw [show c = 4 by omega, f_X6_sumOf_I27, if_pos (by decide)]; rfl
    | succ d ih =>
      intro c n hc hn
      obtain ⟨n, rfl⟩ : ∃ m, n = m + 1 := ⟨n - 1, by omega⟩
      have m := (M.2.2.2 k c hk (by omega)).2.1
      have w := (Wf.2.2.2.2.2.1 (k * 4 + c) (by omega)).2.1
      have i := ih (c + 1) n (by omega) (by omega)
      rw [cnt_s _ c] at i
      rw [f_X6_sumOf_I27, e4, if_neg (nI_ge (by omega) (by decide))]
      simp only [e0, e1, nI_mul, nI_add]
      simp (disch := omega) only [ib_nI, nI_clamp, if_true, m, nI_leI]
      by_cases a : 0 < G 8 (k * 4 + c)
      · rw [if_pos (by simp [a])] at i
        rw [if_neg (by omega)]
        exact i
      · rw [if_neg (by simp [a])] at i
        rw [if_pos (by omega)]
        exact i
  have := key 4 0 FU rfl (FU_big (by decide))
  rw [show cnt (fun c => decide (0 < G 8 (k * 4 + c))) 0 = 0 from rfl, ← e0] at this
  exact this
theorem mo_sum {μ : Blk} {G : NB} {N : Nat} (M : Mod (μ 1) 0 G) (Wf : WF N G) : f_X6_sumOf μ 2 = some (nI (cnt (fun k => decide (0 < G 6 k)) (G 0 0))) ∧ f_X6_sumOf μ 6 = some (nI (sm (gap G) (G 0 0))) ∧ f_X6_sumOf μ 7 = some (nI (sm (sl4 G) (G 0 0))) := by
  have hm := Wf.2.1.1
  have m0 : μ 1 3 = nI (G 0 0) := by simpa using M.1.2.2.2
  have key : ∀ (x : Int32) (f : Nat → Nat), (∀ (j n acc : Nat), j < G 0 0 → f_X6_sumOf_L4 μ x (n + 1) (nI acc) (nI j) = f_X6_sumOf_L4 μ x n (nI (acc + f j)) (nI (j + 1))) → f_X6_sumOf μ x = some (nI (sm f (G 0 0))) := by
    intro x f hs
    have lp : ∀ (d j n : Nat), j + d = G 0 0 → d < n → f_X6_sumOf_L4 μ x n (nI (sm f j)) (nI j) = some (nI (sm f (G 0 0))) := by
      intro d
      induction d with
      | zero =>
        intro j n hj hn
        obtain ⟨n, rfl⟩ : ∃ m, n = m + 1 := ⟨n - 1, by omega⟩
        rw [f_X6_sumOf_L4, m0, if_pos (nI_le (by omega) (by omega)), show j = G 0 0 by omega]
      | succ d ih =>
        intro j n hj hn
        obtain ⟨n, rfl⟩ : ∃ m, n = m + 1 := ⟨n - 1, by omega⟩
        rw [hs j n _ (by omega)]
        exact ih (j + 1) n (by omega) (by omega)
    unfold f_X6_sumOf
    have := lp (G 0 0) 0 FU (by omega) (FU_big (by omega))
    simp only [sm] at this
    rw [← e0] at this
    exact this
  have cs : cnt (fun k => decide (0 < G 6 k)) (G 0 0) = sm (fun k => if 0 < G 6 k then 1 else 0) (G 0 0) := by
    have : ∀ j, cnt (fun k => decide (0 < G 6 k)) j = sm (fun k => if 0 < G 6 k then 1 else 0) j := by
      intro j
      induction j with
      | zero => rfl
      | succ j ih => simp only [cnt, sm, ih, decide_eq_true_eq]
    exact this _
  rw [cs]
  refine ⟨key 2 _ (fun j n acc hj => ?_), key 6 _ (fun j n acc hj => ?_), key 7 _ (fun j n acc hj => ?_)⟩
  · have j12 : j < 12 := by omega
    have m := (M.2.2.1 j hj).2.2.2
    have w := (Wf.2.2.2.1 j j12).2.2.2
    rw [f_X6_sumOf_L4, m0, if_neg (nI_ge (by omega) (by omega)), show (0 : Int32) = nI 0 from e0, mo_place]
    simp only [lt]
    rw [← e0, mo_sl4 M Wf _ _ _ hj j12, Option.bind_some, if_pos trivial]
    simp only [e0, e1, e3, nI_add]
    simp (disch := omega) only [ib_nI, nI_clamp, if_true, m, nI_leI]
    by_cases a : 0 < G 6 j
    · rw [if_neg (by omega), if_pos a]
    · rw [if_pos (by omega), if_neg a]
  · have j12 : j < 12 := by omega
    rw [f_X6_sumOf_L4, m0, if_neg (nI_ge (by omega) (by omega)), show (0 : Int32) = nI 0 from e0, mo_place]
    simp only [lt]
    rw [← e0, mo_sl4 M Wf _ _ _ hj j12, Option.bind_some, if_neg (by decide), if_pos trivial, mo_gap M Wf hj j12, Option.bind_some, nI_add, nI_1]
  · have j12 : j < 12 := by omega
    rw [f_X6_sumOf_L4, m0, if_neg (nI_ge (by omega) (by omega)), show (0 : Int32) = nI 0 from e0, mo_place]
    simp only [lt]
    rw [← e0, mo_sl4 M Wf _ _ _ hj j12, Option.bind_some, if_neg (by decide), if_neg (by decide), nI_add, nI_1]
/-- the counters with a slip, one by one or stile by stile -/
theorem sl_all {G : NB} {N : Nat} (Wf : WF N G) : cnt (fun i => decide (0 < G 8 i)) 48 = sm (sl4 G) (G 0 0) := by
  have a : ∀ j, cnt (fun i => decide (0 < G 8 i)) (j * 4) = sm (sl4 G) j := by
    intro j
    induction j with
    | zero => rfl
    | succ j ih =>
      have p0 := cnt_s (fun i => decide (0 < G 8 i)) (j * 4)
      have p1 := cnt_s (fun i => decide (0 < G 8 i)) (j * 4 + 1)
      have p2 := cnt_s (fun i => decide (0 < G 8 i)) (j * 4 + 2)
      have p3 := cnt_s (fun i => decide (0 < G 8 i)) (j * 4 + 3)
      have s4 : sl4 G j = ((((0 + if decide (0 < G 8 (j * 4 + 0)) = true then 1 else 0) + if decide (0 < G 8 (j * 4 + 1)) = true then 1 else 0) + if decide (0 < G 8 (j * 4 + 2)) = true then 1 else 0) + if decide (0 < G 8 (j * 4 + 3)) = true then 1 else 0) := rfl
      show _ = sm (sl4 G) j + sl4 G j
      rw [show (j + 1) * 4 = j * 4 + 3 + 1 by omega, p3, p2, p1, p0, ih, s4]
      simp only [Nat.add_zero, Nat.zero_add]
      omega
  have b : ∀ d, G 0 0 * 4 + d ≤ 48 → cnt (fun i => decide (0 < G 8 i)) (G 0 0 * 4 + d) = cnt (fun i => decide (0 < G 8 i)) (G 0 0 * 4) := by
    intro d
    induction d with
    | zero => intro _; rfl
    | succ d ih =>
      intro h
      have w := (Wf.2.2.2.2.2.2.2 (G 0 0 * 4 + d) (by omega) (by omega)).2.1
      rw [show G 0 0 * 4 + (d + 1) = (G 0 0 * 4 + d) + 1 by omega, cnt_s, ih (by omega), w]
      simp
  have hm := Wf.2.1.1
  have := b (48 - G 0 0 * 4) (by omega)
  rw [show G 0 0 * 4 + (48 - G 0 0 * 4) = 48 by omega] at this
  rw [this, a]
