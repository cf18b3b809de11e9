/-! class and reference side by side: what only reads -/
theorem sim_reason {N : Nat} {G : NB} {z : Nat} {H : Nat → NB} {hs : Int32} {n0 n1 : Blk} {ζ : Row} {η : Nat → Blk} {χ μ : Blk} (S : St N G z H hs n0 n1 ζ η χ μ) (n2 : Blk) (δ : Row) (x1 : Int32) (ff : Bool) (x3 : Int32) : ∃ r, f_X5_reason hs n0 n1 n2 ζ η δ χ x1 ff x3 = some r ∧ f_X6_reason μ x1 ff x3 = some r := by
  unfold f_X5_reason f_X6_reason
  simp only [lt]
  rw [st_eq S.cl S.mo S.wf, in_ppl]
  by_cases h : f_X6_isStile μ x1 = true
  · rw [if_pos h, if_pos h]
    obtain ⟨k, hk, rfl⟩ := (mo_stile S.mo S.wf _).mp h
    by_cases g : f_X6_in x3 1 99 = true
    · rw [if_pos g, if_pos g]
      obtain ⟨n, h1, h9, rfl⟩ := (in_nI (a := 1) (b := 99) (by decide) (by decide)).mp g
      have hm := S.wf.2.1.1
      have w := mo_why S.mo S.wf (by decide) hk (by omega) h9 ff
      rw [← e0] at w
      rw [cl_why S.cl S.wf (by omega) h9, w]
      exact ⟨_, rfl, rfl⟩
    · rw [if_neg g, if_neg g]; exact ⟨_, rfl, rfl⟩
  · rw [if_neg h, if_neg h]; exact ⟨_, rfl, rfl⟩
theorem sim_most {N : Nat} {G : NB} {z : Nat} {H : Nat → NB} {hs : Int32} {n0 n1 : Blk} {ζ : Row} {η : Nat → Blk} {χ μ : Blk} (S : St N G z H hs n0 n1 ζ η χ μ) (n2 : Blk) (δ : Row) (x1 : Int32) (ff : Bool) : ∃ r, f_X5_most hs n0 n1 n2 ζ η δ χ x1 ff = some r ∧ f_X6_most μ x1 ff = some r := by
  unfold f_X5_most f_X6_most
  simp only [lt]
  rw [st_eq S.cl S.mo S.wf]
  by_cases h : f_X6_isStile μ x1 = true
  · rw [if_pos h, if_pos h]
    obtain ⟨k, hk, rfl⟩ := (mo_stile S.mo S.wf _).mp h
    have hm := S.wf.2.1.1
    have w := mo_most S.mo S.wf (by decide) hk (by omega) (Nat.le_refl 99) ff
    rw [← e0, ← e99] at w
    rw [cl_most S.cl S.wf (by omega), w]
    exact ⟨_, rfl, rfl⟩
  · rw [if_neg h, if_neg h]; exact ⟨_, rfl, rfl⟩
theorem sim_count {N : Nat} {G : NB} {z : Nat} {H : Nat → NB} {hs : Int32} {n0 n1 : Blk} {ζ : Row} {η : Nat → Blk} {χ μ : Blk} (S : St N G z H hs n0 n1 ζ η χ μ) (n2 : Blk) (δ : Row) (x1 : Int32) : ∃ r, f_X5_count hs n0 n1 n2 ζ η δ χ x1 = some r ∧ f_X6_count μ x1 = some r := by
  have c := S.cl.1
  have m0 : μ 1 0 = nI (G 0 1) := S.mo.1.1
  have m1 : μ 1 1 = nI (G 0 2) := S.mo.1.2.1
  have m2 : μ 1 2 = nI (G 0 3) := S.mo.1.2.2.1
  have m3 : μ 1 3 = nI (G 0 0) := S.mo.1.2.2.2
  have sm := mo_sum S.mo S.wf
  have pp := mo_ppl S.mo (by decide)
  rw [← e0] at pp
  have aO := mo_allTold S.mo S.wf true
  have aF := mo_allTold S.mo S.wf false
  obtain ⟨t, t1, t2, t3, t4⟩ := S.tx
  unfold f_X5_count f_X6_count
  by_cases h0 : x1 = 0
  · subst h0; rw [if_pos rfl, if_pos rfl]; exact ⟨_, rfl, by rw [m2, c 3 (by decide)]⟩
  rw [if_neg h0, if_neg h0]
  by_cases h1 : x1 = 1
  · subst h1; rw [if_pos rfl, if_pos rfl]; exact ⟨_, rfl, by rw [m3, c 0 (by decide)]⟩
  rw [if_neg h1, if_neg h1]
  by_cases h2 : x1 = 2
  · subst h2; rw [if_pos rfl, if_pos rfl, cl_under S.cl S.wf, sm.1]; exact ⟨_, rfl, rfl⟩
  rw [if_neg h2, if_neg h2]
  by_cases h3 : x1 = 3
  · subst h3; rw [if_pos rfl, if_pos rfl, cl_ppl S.cl, pp]; exact ⟨_, rfl, rfl⟩
  rw [if_neg h3, if_neg h3]
  by_cases h4 : x1 = 4
  · subst h4; rw [if_pos rfl, if_pos rfl, cl_allOwn S.cl S.wf, aO]; exact ⟨_, rfl, rfl⟩
  rw [if_neg h4, if_neg h4]
  by_cases h5 : x1 = 5
  · subst h5; rw [if_pos rfl, if_pos rfl, cl_allFar S.cl S.wf, aF]; exact ⟨_, rfl, rfl⟩
  rw [if_neg h5, if_neg h5]
  by_cases h6 : x1 = 6
  · subst h6; rw [if_pos rfl, if_pos rfl, cl_gaps S.cl S.wf, sm.2.1]; exact ⟨_, rfl, rfl⟩
  rw [if_neg h6, if_neg h6]
  by_cases h7 : x1 = 7
  · subst h7; rw [if_pos rfl, if_pos rfl, cl_withSlip S.cl S.wf, sm.2.2, sl_all S.wf]; exact ⟨_, rfl, rfl⟩
  rw [if_neg h7, if_neg h7]
  by_cases h8 : x1 = 8
  · subst h8; rw [if_pos rfl, if_pos rfl, cl_fullest S.cl S.wf, mo_fullest S.mo S.wf]; exact ⟨_, rfl, rfl⟩
  rw [if_neg h8, if_neg h8]
  by_cases h9 : x1 = 9
  · subst h9; rw [if_pos rfl, if_pos rfl]; exact ⟨_, rfl, by rw [m0, c 1 (by decide)]⟩
  rw [if_neg h9, if_neg h9]
  by_cases h10 : x1 = 10
  · subst h10; rw [if_pos rfl, if_pos rfl]; exact ⟨_, rfl, by rw [m1, c 2 (by decide)]⟩
  rw [if_neg h10, if_neg h10]
  by_cases h11 : x1 = 11
  · subst h11; rw [if_pos rfl, if_pos rfl]; exact ⟨_, rfl, by rw [S.hz, S.hi.2.1]⟩
  rw [if_neg h11, if_neg h11]
  by_cases h12 : x1 = 12
  · subst h12; rw [if_pos rfl, if_pos rfl]; exact ⟨_, rfl, by rw [t3, t2]⟩
  rw [if_neg h12, if_neg h12]
  exact ⟨_, rfl, rfl⟩
theorem not_in {x : Int32} {b : Nat} (hb : b ≤ 10) (h : ∀ j : Nat, j ≤ b → ¬ x = nI j) : ¬ f_X6_in x (nI 0) (nI b) = true := by
  intro c
  obtain ⟨j, _, j1, hj⟩ := (in_nI (by decide) (by omega)).mp c
  exact h j j1 hj
theorem sim_stileOf {N : Nat} {G : NB} {z : Nat} {H : Nat → NB} {hs : Int32} {n0 n1 : Blk} {ζ : Row} {η : Nat → Blk} {χ μ : Blk} (S : St N G z H hs n0 n1 ζ η χ μ) (n2 : Blk) (δ : Row) (x1 x2 : Int32) : ∃ r, f_X5_stileOf hs n0 n1 n2 ζ η δ χ x1 x2 = some r ∧ f_X6_stileOf μ x1 x2 = some r := by
  unfold f_X5_stileOf f_X6_stileOf
  simp only [lt]
  rw [st_eq S.cl S.mo S.wf]
  by_cases h : f_X6_isStile μ x1 = true
  · rw [if_pos h, if_pos h]
    obtain ⟨k, hk, rfl⟩ := (mo_stile S.mo S.wf _).mp h
    have hm := S.wf.2.1.1
    have c := S.cl.2.2.2.1 k (by omega)
    have m := S.mo.2.2.1 k hk
    by_cases h0 : x2 = 0
    · subst h0
      rw [if_pos rfl, if_pos (by decide), if_neg (by decide), at_k (by omega) (by decide), c.1, place0, e0, nI_add, ib_nI (by omega) (by decide), if_pos rfl, nI_clamp (by omega), Nat.add_zero, m.1]
      exact ⟨_, rfl, rfl⟩
    rw [if_neg h0]
    by_cases h1 : x2 = 1
    · subst h1
      rw [if_pos rfl, if_pos (by decide), if_neg (by decide), at_k (by omega) (by decide), c.2.1, place0, e1, nI_add, ib_nI (by omega) (by decide), if_pos rfl, nI_clamp (by omega), m.2.1]
      exact ⟨_, rfl, rfl⟩
    rw [if_neg h1]
    by_cases h2 : x2 = 2
    · subst h2
      rw [if_pos rfl, if_pos (by decide), if_neg (by decide), at_k (by omega) (by decide), c.2.2.1, place0, e2, nI_add, ib_nI (by omega) (by decide), if_pos rfl, nI_clamp (by omega), m.2.2.1]
      exact ⟨_, rfl, rfl⟩
    rw [if_neg h2]
    by_cases h3 : x2 = 3
    · subst h3
      rw [if_pos rfl, if_pos (by decide), if_neg (by decide), at_k (by omega) (by decide), c.2.2.2, place0, e3, nI_add, ib_nI (by omega) (by decide), if_pos rfl, nI_clamp (by omega), m.2.2.2]
      exact ⟨_, rfl, rfl⟩
    rw [if_neg h3]
    by_cases h4 : x2 = 4
    · subst h4
      rw [if_pos rfl, if_pos (by decide), if_pos rfl, cl_gap S.cl S.wf (by omega), mo_gap S.mo S.wf hk (by omega)]
      exact ⟨_, rfl, rfl⟩
    rw [if_neg h4]
    have no : ¬ f_X6_in x2 0 4 = true := not_in (b := 4) (by decide) (fun j hj q => by
      have : j = 0 ∨ j = 1 ∨ j = 2 ∨ j = 3 ∨ j = 4 := by omega
      rcases this with rfl | rfl | rfl | rfl | rfl
      · exact h0 q
      · exact h1 q
      · exact h2 q
      · exact h3 q
      · exact h4 q)
    rw [if_neg no]; exact ⟨_, rfl, rfl⟩
  · rw [if_neg h, if_neg h]; exact ⟨_, rfl, rfl⟩
theorem sim_counter {N : Nat} {G : NB} {z : Nat} {H : Nat → NB} {hs : Int32} {n0 n1 : Blk} {ζ : Row} {η : Nat → Blk} {χ μ : Blk} (S : St N G z H hs n0 n1 ζ η χ μ) (n2 : Blk) (δ : Row) (x1 x2 x3 : Int32) : ∃ r, f_X5_counter hs n0 n1 n2 ζ η δ χ x1 x2 x3 = some r ∧ f_X6_counter μ x1 x2 x3 = some r := by
  unfold f_X5_counter f_X6_counter
  simp only [lt]
  rw [st_eq S.cl S.mo S.wf, in_ctr]
  by_cases h : f_X6_isStile μ x1 = true
  · rw [if_pos h, if_pos h]
    obtain ⟨k, hk, rfl⟩ := (mo_stile S.mo S.wf _).mp h
    have hm := S.wf.2.1.1
    by_cases g : f_X6_in x2 0 3 = true
    · rw [if_pos g, if_pos g]
      obtain ⟨c, _, hc, rfl⟩ := (in_nI (a := 0) (b := 3) (by decide) (by decide)).mp g
      have cc := S.cl.2.2.2.2 (k * 4 + c) (by omega)
      have m := S.mo.2.2.2 k c hk (by omega)
      by_cases h0 : x3 = 0
      · subst h0
        rw [if_pos rfl, if_pos (by decide), if_pos rfl, ci_k, at_k (by omega) (by decide), cc.1, place0, e4, nI_mul, nI_add, nI_add, ib_nI (by omega) (by decide), if_pos rfl, nI_clamp (by omega), m.1]
        exact ⟨_, rfl, rfl⟩
      rw [if_neg h0]
      by_cases h1 : x3 = 1
      · subst h1
        rw [if_pos rfl, if_pos (by decide), if_neg (by decide), if_pos rfl, ci_k, at_k (by omega) (by decide), cc.2.1, place0, e4, nI_mul, nI_add, nI_add, e1, nI_add, ib_nI (by omega) (by decide), if_pos rfl, nI_clamp (by omega), m.2.1]
        exact ⟨_, rfl, rfl⟩
      rw [if_neg h1]
      by_cases h2 : x3 = 2
      · subst h2
        rw [if_pos rfl, if_pos (by decide), if_neg (by decide), if_neg (by decide), ci_k, at_k (by omega) (by decide), cc.2.2.2, place0, e4, nI_mul, nI_add, nI_add, e3, nI_add, ib_nI (by omega) (by decide), if_pos rfl, nI_clamp (by omega), m.2.2.2]
        exact ⟨_, rfl, rfl⟩
      rw [if_neg h2]
      have no : ¬ f_X6_in x3 0 2 = true := not_in (b := 2) (by decide) (fun j hj q => by
        have : j = 0 ∨ j = 1 ∨ j = 2 := by omega
        rcases this with rfl | rfl | rfl
        · exact h0 q
        · exact h1 q
        · exact h2 q)
      rw [if_neg no]; exact ⟨_, rfl, rfl⟩
    · rw [if_neg g, if_neg g]; exact ⟨_, rfl, rfl⟩
  · rw [if_neg h, if_neg h]; exact ⟨_, rfl, rfl⟩
theorem sim_hall {N : Nat} {G : NB} {z : Nat} {H : Nat → NB} {hs : Int32} {n0 n1 : Blk} {ζ : Row} {η : Nat → Blk} {χ μ : Blk} (S : St N G z H hs n0 n1 ζ η χ μ) (hN : N + 600000 ≤ 536870912) (n2 : Blk) (δ : Row) (x1 x2 : Int32) : ∃ r δ' μ', f_X5_hall hs n0 n1 n2 ζ η δ χ x1 x2 = some (r, δ') ∧ f_X6_hall μ x1 x2 = some (r, μ') ∧ Inv (N + 500000) hs n0 n1 ζ η χ μ' := by
  have I : Inv (N + 500000) hs n0 n1 ζ η χ μ := ⟨_, _, _, S.mono (by omega) (by omega)⟩
  unfold f_X5_hall f_X6_hall
  simp only [lt]
  rw [in_hwr]
  by_cases h : f_X6_isHall x1 = true
  · rw [if_pos h, if_pos h]
    have h' : f_X6_in x1 (nI 1) (nI 5) = true := h
    obtain ⟨k, k1, k5, rfl⟩ := (in_nI (by decide) (by decide)).mp h'
    have c1 := S.cl.2.1 k k1 (by omega)
    have c2 := S.cl.2.2.1 k k1 (by omega)
    have m := S.mo.2.1 k k1 (by omega)
    simp only [Nat.zero_add] at m
    by_cases h0 : x2 = 0
    · subst h0
      rw [if_pos rfl, if_pos rfl, at_k (by omega) (by decide), c1, e4, nI_add, ib_nI (by omega) (by decide), if_pos rfl, nI_clamp (by omega), m.1]
      exact ⟨_, _, _, rfl, rfl, I⟩
    rw [if_neg h0, if_neg h0]
    by_cases h1 : x2 = 1
    · subst h1
      rw [if_pos rfl, if_pos rfl, at_k (by omega) (by decide), c2, e10, nI_add, ib_nI (by omega) (by decide), if_pos rfl, nI_clamp (by omega), m.2]
      exact ⟨_, _, _, rfl, rfl, I⟩
    rw [if_neg h1, if_neg h1]
    by_cases h2 : x2 = 2
    · subst h2
      rw [if_pos rfl, if_pos rfl, cl_own S.cl S.wf (by omega), mo_told S.mo S.wf (by omega)]
      exact ⟨_, _, _, rfl, rfl, I⟩
    rw [if_neg h2, if_neg h2]
    by_cases h3 : x2 = 3
    · subst h3
      rw [if_pos rfl, if_pos rfl, cl_far S.cl S.wf (by omega), mo_told S.mo S.wf (by omega)]
      exact ⟨_, _, _, rfl, rfl, I⟩
    rw [if_neg h3, if_neg h3]
    by_cases h4 : x2 = 4
    · subst h4
      rw [if_pos rfl, if_pos rfl]
      obtain ⟨δ', d1, d2⟩ := cl_dist (δ := δ) S.cl S.wf
      obtain ⟨μ', f1, f2, f3⟩ := mo_dist S.mo S.wf (by decide)
      have dl := dst_le G (h := k) (by omega)
      rw [← e0] at f1
      unfold f_X0_distanceOrNone f_X6_distance
      have I' : Inv (N + 500000) hs n0 n1 ζ η χ μ' := ⟨_, _, _, S.chg (by omega) (by omega) (wf_mono S.wf (by omega) (by omega)) S.cl (by rw [f2 1 (by decide)]; exact S.mo) (fun j _ => congrFun (f2 0 (by decide)) j) (f2 2 (by decide)) (fun j _ _ => congrFun (f2 1 (by decide)) j) rfl rfl⟩
      rw [d1, f1, Option.bind_some, Option.bind_some, at_k (by omega) (by decide), Option.bind_some, d2 k (by omega), ib_nI (by omega) (by decide), if_pos rfl, nI_clamp (by omega), f3 k (by omega)]
      unfold fI
      by_cases q : dst G k = 1000
      · rw [q, if_pos rfl, if_pos (by decide)]
        exact ⟨_, _, _, rfl, rfl, I'⟩
      · rw [if_neg q, if_neg (by rw [e1000]; intro c; exact q ((nI_eq (by omega) (by decide)).mp c))]
        exact ⟨_, _, _, rfl, rfl, I'⟩
    rw [if_neg h4, if_neg h4]
    by_cases h5 : x2 = 5
    · subst h5
      rw [if_pos rfl, if_pos rfl, cl_stilesOf S.cl S.wf (by omega), mo_stilesOf S.mo S.wf (by omega)]
      exact ⟨_, _, _, rfl, rfl, I⟩
    rw [if_neg h5, if_neg h5]
    exact ⟨_, _, _, rfl, rfl, I⟩
  · rw [if_neg h, if_neg h]; exact ⟨_, _, _, rfl, rfl, I⟩
/-- a stile's rank, in the reference -/
theorem mo_rank {μ : Blk} {G : NB} {N : Nat} (M : Mod (μ 1) 0 G) (Wf : WF N G) (x1 x2 : Int32) {k : Nat} (hk : k < G 0 0) : f_X6_worst_I28 μ x1 x2 (nI k) FU 0 0 = some (nI (cnt (ahd G k) (G 0 0))) := by
  have hm := Wf.2.1.1
  have n0 := Wf.1
  have m0 : μ 1 3 = nI (G 0 0) := M.1.2.2.2
  have gk := gap_le Wf (k := k) (by omega)
  have key : ∀ (d j n : Nat), j + d = G 0 0 → d < n → f_X6_worst_I28 μ x1 x2 (nI k) n (nI (cnt (ahd G k) j)) (nI j) = some (nI (cnt (ahd G k) (G 0 0))) := by
    intro d
    induction d with
    | zero =>
      intro j n hj hn
      obtain ⟨n, rfl⟩ : ∃ m, n = m + 1 := ⟨n - 1, by omega⟩
      rw [f_X6_worst_I28, m0, if_pos (nI_le (by omega) (by omega)), show j = G 0 0 by omega]
    | succ d ih =>
      intro j n hj hn
      obtain ⟨n, rfl⟩ : ∃ m, n = m + 1 := ⟨n - 1, by omega⟩
      have i := ih (j + 1) n (by omega) (by omega)
      have gj := gap_le Wf (k := j) (by omega)
      rw [cnt_s] at i
      rw [f_X6_worst_I28, m0, if_neg (nI_ge (by omega) (by omega)), mo_gap M Wf (show j < G 0 0 by omega) (by omega), mo_gap M Wf hk (by omega)]
      simp only [Option.bind_some]
      by_cases a : gap G k < gap G j
      · rw [if_pos (nI_lt a (by omega)), nI_1, nI_1]
        rw [if_pos (by simp [ahd, a])] at i
        exact i
      · rw [if_neg (nI_nlt (by omega) (by omega))]
        by_cases b : gap G j = gap G k
        · rw [if_pos (by rw [b])]
          by_cases c : j < k
          · rw [if_neg (nI_ge c (by omega)), nI_1, nI_1]
            rw [if_pos (by simp [ahd, b, c])] at i
            exact i
          · rw [if_pos (nI_le (by omega) (by omega)), show nI (cnt (ahd G k) j) + 0 = nI (cnt (ahd G k) j + 0) by rw [e0, nI_add], nI_1]
            rw [if_neg (by simp [ahd, b, c])] at i
            exact i
        · rw [if_neg (fun c => b ((nI_eq (by omega) (by omega)).mp c)), show nI (cnt (ahd G k) j) + 0 = nI (cnt (ahd G k) j + 0) by rw [e0, nI_add], nI_1]
          rw [if_neg (by simp [ahd, a, b])] at i
          exact i
  have := key (G 0 0) 0 FU (by omega) (FU_big (by omega))
  rw [show cnt (ahd G k) 0 = 0 from rfl, ← e0] at this
  exact this
theorem cnt_lt {P Q : Nat → Bool} {i : Nat} (hPQ : ∀ j, P j = true → Q j = true) (h1 : P i = false) (h2 : Q i = true) : ∀ m, (cnt P m ≤ cnt Q m) ∧ (i < m → cnt P m < cnt Q m) := by
  intro m
  induction m with
  | zero => exact ⟨Nat.le_refl _, fun c => absurd c (Nat.not_lt_zero _)⟩
  | succ m ih =>
    rw [cnt_s, cnt_s]
    have st : (if P m = true then 1 else 0) ≤ (if Q m = true then 1 else 0) := by
      by_cases a : P m = true
      · rw [if_pos a, if_pos (hPQ m a)]; exact Nat.le_refl _
      · rw [if_neg a]; exact Nat.zero_le _
    refine ⟨by omega, fun hi => ?_⟩
    by_cases e : i = m
    · subst e
      rw [if_neg (by rw [h1]; decide), if_pos h2]
      omega
    · have := ih.2 (by omega)
      omega
theorem rank_un {G : NB} {m a b : Nat} (ha : a < m) (hb : b < m) (h : cnt (ahd G a) m = cnt (ahd G b) m) : a = b := by
  have key : ∀ x y, x < m → y < m → ahd G x y = true → cnt (ahd G y) m < cnt (ahd G x) m := by
    intro x y hx hy hxy
    refine (cnt_lt (P := ahd G y) (Q := ahd G x) (i := y) (fun j hj => ?_) ?_ hxy m).2 hy
    · simp only [ahd, Bool.or_eq_true, Bool.and_eq_true, decide_eq_true_eq] at *
      omega
    · simp [ahd]
  by_cases e : a = b
  · exact e
  · have tot : ahd G a b = true ∨ ahd G b a = true := by
      simp only [ahd, Bool.or_eq_true, Bool.and_eq_true, decide_eq_true_eq]
      omega
    rcases tot with t | t
    · have := key a b ha hb t; omega
    · have := key b a hb ha t; omega
theorem sim_worst {N : Nat} {G : NB} {z : Nat} {H : Nat → NB} {hs : Int32} {n0 n1 : Blk} {ζ : Row} {η : Nat → Blk} {χ μ : Blk} (S : St N G z H hs n0 n1 ζ η χ μ) (n2 : Blk) (δ : Row) (x1 : Int32) : ∃ r, f_X5_worst hs n0 n1 n2 ζ η δ χ x1 = some r ∧ f_X6_worst μ x1 = some r := by
  have hm := S.wf.2.1.1
  have nn := S.wf.1
  have c0 := S.cl.1 0 (by decide)
  have m0 : μ 1 3 = nI (G 0 0) := S.mo.1.2.2.2
  unfold f_X5_worst f_X6_worst
  by_cases h : 0 ≤ x1
  · rw [if_pos h, if_pos h]
    obtain ⟨q, hq, rfl⟩ := nI_of (x := x1) (by rw [Int32.lt_iff_toInt_lt]; rw [Int32.le_iff_toInt_le] at h; omega)
    have A : ∀ (d j n : Nat), j + d = G 0 0 → d < n → (∀ i, i < j → ¬ (0 < gap G i ∧ cnt (ahd G i) (G 0 0) = q)) → ∃ r, f_X5_worst_L9 hs n0 n1 n2 ζ η δ χ (nI q) n (nI j) = some r ∧ ((∃ k, k < G 0 0 ∧ (0 < gap G k ∧ cnt (ahd G k) (G 0 0) = q) ∧ r = nI k) ∨ ((∀ i, i < G 0 0 → ¬ (0 < gap G i ∧ cnt (ahd G i) (G 0 0) = q)) ∧ r = -100005)) := by
      intro d
      induction d with
      | zero =>
        intro j n hj hn hP
        obtain ⟨n, rfl⟩ : ∃ m, n = m + 1 := ⟨n - 1, by omega⟩
        have e : j = G 0 0 := by omega
        refine ⟨-100005, by rw [f_X5_worst_L9, c0, if_pos (nI_le (by omega) (by omega))], .inr ⟨fun i hi => hP i (by omega), rfl⟩⟩
      | succ d ih =>
        intro j n hj hn hP
        obtain ⟨n, rfl⟩ : ∃ m, n = m + 1 := ⟨n - 1, by omega⟩
        have gj := gap_le S.wf (k := j) (by omega)
        have cl := cnt_le (ahd G j) (G 0 0)
        rw [f_X5_worst_L9, c0, if_neg (nI_ge (by omega) (by omega)), cl_gap S.cl S.wf (by omega), Option.bind_some]
        by_cases g : 0 < gap G j
        · rw [if_neg (show ¬ nI (gap G j) ≤ 0 by rw [e0]; exact nI_ge g (by omega)), cl_worse S.cl S.wf (by omega), Option.bind_some]
          by_cases w : cnt (ahd G j) (G 0 0) = q
          · rw [if_pos (by rw [w])]
            exact ⟨_, rfl, .inl ⟨j, by omega, ⟨g, w⟩, rfl⟩⟩
          · rw [if_neg (fun c => w ((nI_eq (by omega) hq).mp c)), nI_1]
            exact ih (j + 1) n (by omega) (by omega) (fun i hi => by
              by_cases e : i = j
              · subst e; exact fun c => w c.2
              · exact hP i (by omega))
        · rw [if_pos (show nI (gap G j) ≤ 0 by rw [e0]; exact nI_le (by omega) (by omega)), nI_1]
          exact ih (j + 1) n (by omega) (by omega) (fun i hi => by
            by_cases e : i = j
            · subst e; exact fun c => g c.1
            · exact hP i (by omega))
    have B : ∀ (d j n : Nat) (x2 : Int32), j + d = G 0 0 → d < n → ((∃ k, k < j ∧ (0 < gap G k ∧ cnt (ahd G k) (G 0 0) = q) ∧ x2 = nI k) ∨ ((∀ i, i < j → ¬ (0 < gap G i ∧ cnt (ahd G i) (G 0 0) = q)) ∧ x2 = -100005)) → ∃ r, f_X6_worst_L12 μ (nI q) n x2 (nI j) = some r ∧ ((∃ k, k < G 0 0 ∧ (0 < gap G k ∧ cnt (ahd G k) (G 0 0) = q) ∧ r = nI k) ∨ ((∀ i, i < G 0 0 → ¬ (0 < gap G i ∧ cnt (ahd G i) (G 0 0) = q)) ∧ r = -100005)) := by
      intro d
      induction d with
      | zero =>
        intro j n x2 hj hn hP
        obtain ⟨n, rfl⟩ : ∃ m, n = m + 1 := ⟨n - 1, by omega⟩
        have e : j = G 0 0 := by omega
        subst e
        exact ⟨x2, by rw [f_X6_worst_L12, m0, if_pos (nI_le (by omega) (by omega))], hP⟩
      | succ d ih =>
        intro j n x2 hj hn hP
        obtain ⟨n, rfl⟩ : ∃ m, n = m + 1 := ⟨n - 1, by omega⟩
        have gj := gap_le S.wf (k := j) (by omega)
        have cl := cnt_le (ahd G j) (G 0 0)
        have keep : ¬ (0 < gap G j ∧ cnt (ahd G j) (G 0 0) = q) → ((∃ k, k < j + 1 ∧ (0 < gap G k ∧ cnt (ahd G k) (G 0 0) = q) ∧ x2 = nI k) ∨ ((∀ i, i < j + 1 → ¬ (0 < gap G i ∧ cnt (ahd G i) (G 0 0) = q)) ∧ x2 = -100005)) := by
          intro nj
          rcases hP with ⟨k, k1, k2, k3⟩ | ⟨h1, h2⟩
          · exact .inl ⟨k, by omega, k2, k3⟩
          · refine .inr ⟨fun i hi => ?_, h2⟩
            by_cases e : i = j
            · subst e; exact nj
            · exact h1 i (by omega)
        rw [f_X6_worst_L12, m0, if_neg (nI_ge (by omega) (by omega)), mo_rank S.mo S.wf _ _ (by omega), Option.bind_some]
        by_cases w : cnt (ahd G j) (G 0 0) = q
        · rw [if_pos (by rw [w]), mo_gap S.mo S.wf (show j < G 0 0 by omega) (by omega), Option.bind_some]
          by_cases g : 0 < gap G j
          · rw [if_neg (show ¬ nI (gap G j) ≤ 0 by rw [e0]; exact nI_ge g (by omega)), nI_1]
            exact ih (j + 1) n _ (by omega) (by omega) (.inl ⟨j, by omega, ⟨g, w⟩, rfl⟩)
          · rw [if_pos (show nI (gap G j) ≤ 0 by rw [e0]; exact nI_le (by omega) (by omega)), nI_1]
            exact ih (j + 1) n _ (by omega) (by omega) (keep (fun c => g c.1))
        · rw [if_neg (fun c => w ((nI_eq (by omega) hq).mp c)), nI_1]
          exact ih (j + 1) n _ (by omega) (by omega) (keep (fun c => w c.2))
    obtain ⟨r, a1, a2⟩ := A (G 0 0) 0 FU (by omega) (FU_big (by omega)) (fun i hi => absurd hi (Nat.not_lt_zero _))
    obtain ⟨s, b1, b2⟩ := B (G 0 0) 0 FU (-100005) (by omega) (FU_big (by omega)) (.inr ⟨fun i hi => absurd hi (Nat.not_lt_zero _), rfl⟩)
    rw [← e0] at a1 b1
    refine ⟨r, a1, ?_⟩
    rw [b1]
    rcases a2 with ⟨k, k1, k2, k3⟩ | ⟨h1, h2⟩
    · rcases b2 with ⟨l, l1, l2, l3⟩ | ⟨g1, g2⟩
      · rw [k3, l3, rank_un k1 l1 (k2.2.trans l2.2.symm)]
      · exact absurd k2 (g1 k k1)
    · rcases b2 with ⟨l, l1, l2, l3⟩ | ⟨g1, g2⟩
      · exact absurd l2 (h1 l l1)
      · rw [h2, g2]
  · rw [if_neg h, if_neg h]; exact ⟨_, rfl, rfl⟩
