/-! class and reference side by side: open, room, pass, repair, hours, close -/
theorem place0 (k : Nat) : f_X6_place 0 (nI k) = nI (0 + 16 + 20 * k) := by rw [e0, mo_place]
theorem in_cases {x a b : Int32} (h : ¬ f_X6_in x a b = true) : x < a ∨ (¬ x < a ∧ ¬ x ≤ b) := by
  unfold f_X6_in at h
  by_cases h1 : x < a
  · exact .inl h1
  · rw [if_neg h1] at h
    refine .inr ⟨h1, fun c => h ?_⟩
    rw [if_neg (by rw [Int32.lt_iff_toInt_lt]; rw [Int32.le_iff_toInt_le] at c; omega)]
theorem sim_open {N : Nat} {G : NB} {z : Nat} {H : Nat → NB} {hs : Int32} {n0 n1 : Blk} {ζ : Row} {η : Nat → Blk} {χ μ : Blk} (S : St N G z H hs n0 n1 ζ η χ μ) (hN : N + 600000 ≤ 536870912) (n2 : Blk) (δ : Row) (x1 x2 : Int32) : Sim (N + 500000) hs n1 χ (f_X5_open hs n0 n1 n2 ζ η δ χ x1 x2) (f_X6_open μ x1 x2) := by
  unfold f_X5_open f_X6_open
  simp only [lt]
  rw [st_eq S.cl S.mo S.wf]
  by_cases h : f_X6_isStile μ x1 = true
  · rw [if_pos h, if_pos h]
    obtain ⟨k, hk, rfl⟩ := (mo_stile S.mo S.wf _).mp h
    by_cases g : f_X6_in x2 0 3 = true
    · rw [if_pos g]
      obtain ⟨v, _, hv, rfl⟩ := (in_nI (a := 0) (b := 3) (by decide) (by decide)).mp g
      have hm := S.wf.2.1.1
      obtain ⟨ζ', η', μ1, a1, a2, S1, p1⟩ := S.rec
      have c := (S.cl.2.2.2.1 k (by omega)).2.2.1
      have m := (S1.mo.2.2.1 k hk).2.2.1
      rw [if_neg (nI_pos (by omega)), if_pos (by rw [e3]; exact nI_le hv (by decide)), a1, a2, Option.bind_some, Option.bind_some, at_k (by omega) (by decide), Option.bind_some, put_k (by omega) (by decide), Option.bind_some, c]
      simp only [place0, e2, nI_add]
      simp (disch := omega) only [ib_nI, nI_clamp, if_true, m]
      refine ⟨_, _, ζ', η', _, rfl, rfl, _, _, _, S1.chg' (by omega) (by omega) (wf_mono (wf_set5 S.wf hk hv) (by omega) (by omega)) (cl_set S.cl (by decide)) ?_ (Same.up (by omega) (by omega))⟩
      rw [upR_app, if_pos rfl]
      exact mo_own_up S1.mo (by omega) (by decide) v
    · rw [if_neg g]
      rcases in_cases g with q | ⟨q1, q2⟩
      · rw [if_pos q]; exact S.no (by omega) (by omega) _
      · rw [if_neg q1, if_neg q2]; exact S.no (by omega) (by omega) _
  · rw [if_neg h, if_neg h]; exact S.no (by omega) (by omega) _
theorem sim_wrong {N : Nat} {G : NB} {z : Nat} {H : Nat → NB} {hs : Int32} {n0 n1 : Blk} {ζ : Row} {η : Nat → Blk} {χ μ : Blk} (S : St N G z H hs n0 n1 ζ η χ μ) (n2 : Blk) (δ : Row) (x1 : Int32) (ff : Bool) (x3 : Int32) : ∃ w, f_X5_passError hs n0 n1 n2 ζ η δ χ x1 ff x3 = some w ∧ f_X6_wrong μ x1 ff x3 = some w ∧ ((w = 0 ∧ ∃ k n : Nat, k < G 0 0 ∧ 1 ≤ n ∧ n ≤ 99 ∧ x1 = nI k ∧ x3 = nI n ∧ why G k ff n = 0) ∨ (¬ w = 0 ∧ ¬ 0 ≤ w)) := by
  unfold f_X5_passError f_X6_wrong
  simp only [lt]
  rw [st_eq S.cl S.mo S.wf, in_ppl]
  by_cases h : f_X6_isStile μ x1 = true
  · rw [if_pos h, if_pos h]
    obtain ⟨k, hk, rfl⟩ := (mo_stile S.mo S.wf _).mp h
    by_cases g : f_X6_in x3 1 99 = true
    · rw [if_pos g, if_pos g]
      rw [e1, e99] at g
      obtain ⟨n, h1, h9, rfl⟩ := (in_nI (by decide) (by decide)).mp g
      have hm := S.wf.2.1.1
      have w := mo_why S.mo S.wf (by decide) hk (by omega) h9 ff
      rw [← e0] at w
      rw [cl_why S.cl S.wf (by omega) h9, w, Option.bind_some, Option.bind_some]
      have w4 : why G k ff n = 0 ∨ why G k ff n = 1 ∨ why G k ff n = 2 ∨ why G k ff n = 3 ∨ why G k ff n = 4 := by
        unfold why
        by_cases a : 0 < G 6 k
        · rw [if_pos a]; omega
        · rw [if_neg a]
          split
          · omega
          · split
            · omega
            · split <;> omega
      rcases w4 with q | q | q | q | q
      · rw [q]
        exact ⟨0, by rw [if_pos (by decide)], by rw [if_pos (by decide)], .inl ⟨rfl, k, n, hk, h1, h9, rfl, rfl, q⟩⟩
      · rw [q]
        exact ⟨_, by rw [if_neg (by decide)], by rw [if_neg (by decide)], .inr (by decide)⟩
      · rw [q]
        exact ⟨_, by rw [if_neg (by decide)], by rw [if_neg (by decide)], .inr (by decide)⟩
      · rw [q]
        exact ⟨_, by rw [if_neg (by decide)], by rw [if_neg (by decide)], .inr (by decide)⟩
      · rw [q]
        exact ⟨_, by rw [if_neg (by decide)], by rw [if_neg (by decide)], .inr (by decide)⟩
    · rw [if_neg g, if_neg g]
      exact ⟨_, rfl, rfl, .inr (by decide)⟩
  · rw [if_neg h, if_neg h]
    exact ⟨_, rfl, rfl, .inr (by decide)⟩
theorem sim_pass {N : Nat} {G : NB} {z : Nat} {H : Nat → NB} {hs : Int32} {n0 n1 : Blk} {ζ : Row} {η : Nat → Blk} {χ μ : Blk} (S : St N G z H hs n0 n1 ζ η χ μ) (hN : N + 600000 ≤ 536870912) (n2 : Blk) (δ : Row) (x1 : Int32) (ff : Bool) (x3 : Int32) : Sim (N + 500000) hs n1 χ (f_X5_pass hs n0 n1 n2 ζ η δ χ x1 ff x3) (f_X6_pass μ x1 ff x3) := by
  obtain ⟨w, a, b, h⟩ := sim_wrong S n2 δ x1 ff x3
  unfold f_X5_pass f_X6_pass
  rw [a, b, Option.bind_some, Option.bind_some]
  rcases h with ⟨rfl, k, n, hk, h1, h9, rfl, rfl, hw⟩ | ⟨q1, q2⟩
  · have hm := S.wf.2.1.1
    obtain ⟨ζ', η', μ1, a1, a2, S1, p1⟩ := S.rec
    obtain ⟨σ', c1, c2⟩ := cl_pas S.cl S.wf (by omega) hk h9 (can_why hw)
    obtain ⟨μ', m1, m2, m3⟩ := mo_passes S1.mo S1.wf (by omega) (by decide) hk h9 (can_why hw)
    rw [← e0] at m1
    have W := wf_pas S.wf hk (can_why hw) (M := N + 500000) (by omega) (by omega)
    have g0 : (pas G k ff n) 0 0 = G 0 0 := by simp [pas, see, setN_app, mvI_app, mvO_app]
    rw [if_pos rfl, if_pos (by decide), a1, a2, Option.bind_some, Option.bind_some, c1, m1, Option.bind_some, Option.bind_some, cl_gap c2 W (by omega), mo_gap m2 W (by rw [g0]; exact hk) (by omega)]
    exact ⟨_, _, ζ', η', _, rfl, rfl, _, _, _, S1.chg' (by omega) (by omega) W c2 m2 m3⟩
  · rw [if_neg q1, if_neg q2]
    exact S.no (by omega) (by omega) _
theorem sim_repair {N : Nat} {G : NB} {z : Nat} {H : Nat → NB} {hs : Int32} {n0 n1 : Blk} {ζ : Row} {η : Nat → Blk} {χ μ : Blk} (S : St N G z H hs n0 n1 ζ η χ μ) (hN : N + 600000 ≤ 536870912) (n2 : Blk) (δ : Row) (x1 : Int32) : Sim (N + 500000) hs n1 χ (f_X5_repair hs n0 n1 n2 ζ η δ χ x1) (f_X6_repair μ x1) := by
  unfold f_X5_repair f_X5_repairError f_X6_repair
  simp only [lt]
  rw [st_eq S.cl S.mo S.wf]
  by_cases h : f_X6_isStile μ x1 = true
  · rw [if_pos h, if_pos h]
    obtain ⟨k, hk, rfl⟩ := (mo_stile S.mo S.wf _).mp h
    have hm := S.wf.2.1.1
    have w := (S.wf.2.2.2.1 k (by omega)).2.2.2
    have c := (S.cl.2.2.2.1 k (by omega)).2.2.2
    have m := (S.mo.2.2.1 k hk).2.2.2
    rw [at_k (by omega) (by decide), Option.bind_some, c]
    simp only [place0, e3, nI_add]
    rw [ib_nI (by omega) (by decide), if_pos rfl, nI_clamp (by omega), m]
    by_cases g : G 6 k = 0
    · rw [g, if_pos (by decide), if_pos (by decide), Option.bind_some, if_pos rfl]
      obtain ⟨ζ', η', μ1, a1, a2, S1, p1⟩ := S.rec
      have c2 := S.cl.1 2 (by decide)
      have c3 := S.cl.1 3 (by decide)
      have m1 : μ1 1 1 = nI (G 0 2) := by simpa using S1.mo.1.2.1
      have m2 : μ1 1 2 = nI (G 0 3) := by simpa using S1.mo.1.2.2.1
      have w2 := S.wf.2.1
      rw [a1, a2, Option.bind_some, Option.bind_some]
      unfold f_X4_beginRepair
      rw [put_k (by omega) (by decide), Option.bind_some]
      simp only [lt]
      rw [Option.bind_some, at_k (by omega) (by decide), Option.bind_some, if_pos trivial, m1, c2]
      have C' := cl_set S.cl (p := 6) (k := k) (v := G 0 2) (by decide)
      refine ⟨nI (G 0 3) + nI (G 0 2), _, ζ', η', _, ?_, ?_, _, _, _, S1.chg' (by omega) (by omega) (wf_mono (wf_set6 S.wf hk w2.2.2.2.2.1) (by omega) (by omega)) C' ?_ (Same.up (i := 0 + 16 + 20 * k + 3) (v := nI (G 0 2)) (by omega) (by omega))⟩
      · rw [upR_app, if_neg (by decide), c3, upR_app, if_pos rfl, upd_app, if_pos rfl]
      · rw [upR_app, if_pos rfl, pk_un (by omega), pk_un (by omega), m2, m1]
      · rw [upR_app, if_pos rfl]
        exact mo_own_up S1.mo (by omega) (by decide) _
    · have q : ¬ nI (G 6 k) ≤ 0 := by
        rw [e0]; exact nI_ge (by omega) (by omega)
      rw [if_neg q, if_neg q, Option.bind_some, if_neg (by decide)]
      exact S.no (by omega) (by omega) _
  · rw [if_neg h, if_neg h, Option.bind_some, if_neg (by decide)]; exact S.no (by omega) (by omega) _
/-- some hours, in both -/
theorem both_hours {N T : Nat} (hT : T ≤ 99) (hN : N + 200 ≤ 536870912) : ∀ (d j n m : Nat) (σ μ : Blk) (G : NB) (acc : Int32), j + d = T → d < n → d < m → WF (N + j) G → Cls σ G → Mod (μ 1) 0 G →
    ∃ σ' μ' G' acc', f_X4_letHoursPass_L4 (nI T) n σ acc (nI j) = some (acc', σ') ∧ f_X6_hoursPass_L4 (nI T) m μ acc (nI j) = some (acc', μ') ∧ Cls σ' G' ∧ Mod (μ' 1) 0 G' ∧ WF (N + T) G' ∧ Same 0 μ μ' := by
  intro d
  induction d with
  | zero =>
    intro j n m σ μ G acc hj hn hm W C M
    obtain ⟨n, rfl⟩ : ∃ r, n = r + 1 := ⟨n - 1, by omega⟩
    obtain ⟨m, rfl⟩ : ∃ r, m = r + 1 := ⟨m - 1, by omega⟩
    have e : j = T := by omega
    subst e
    refine ⟨σ, μ, G, acc, ?_, ?_, C, M, W, Same.rf⟩
    · rw [f_X4_letHoursPass_L4, if_pos (nI_le (by omega) (by omega))]
    · rw [f_X6_hoursPass_L4, if_pos (nI_le (by omega) (by omega))]
  | succ d ih =>
    intro j n m σ μ G acc hj hn hm W C M
    obtain ⟨n, rfl⟩ : ∃ r, n = r + 1 := ⟨n - 1, by omega⟩
    obtain ⟨m, rfl⟩ : ∃ r, m = r + 1 := ⟨m - 1, by omega⟩
    obtain ⟨σ1, c1, c2⟩ := cl_hour C W
    obtain ⟨μ1, m1, m2, m3⟩ := mo_hour M W (by decide)
    rw [← e0] at m1
    obtain ⟨σ', μ', G', acc', g1, g2, g3, g4, g5, g6⟩ := ih (j + 1) n m σ1 μ1 (hr G) (acc + nI (ovr G (G 0 0))) (by omega) (by omega) (by omega) (wf_hr W (by omega) (by omega)) c2 m2
    refine ⟨σ', μ', G', acc', ?_, ?_, g3, g4, g5, m3.tr g6⟩
    · rw [f_X4_letHoursPass_L4, if_neg (nI_ge (by omega) (by omega)), c1, Option.bind_some, nI_1]
      exact g1
    · rw [f_X6_hoursPass_L4, if_neg (nI_ge (by omega) (by omega)), m1, Option.bind_some, nI_1]
      exact g2
theorem sim_hours {N : Nat} {G : NB} {z : Nat} {H : Nat → NB} {hs : Int32} {n0 n1 : Blk} {ζ : Row} {η : Nat → Blk} {χ μ : Blk} (S : St N G z H hs n0 n1 ζ η χ μ) (hN : N + 600000 ≤ 536870912) (n2 : Blk) (δ : Row) (x1 : Int32) : Sim (N + 500000) hs n1 χ (f_X5_hours hs n0 n1 n2 ζ η δ χ x1) (f_X6_hours μ x1) := by
  unfold f_X5_hours f_X6_hours
  simp only [lt]
  rw [in_hrs]
  by_cases g : f_X6_in x1 1 99 = true
  · rw [if_pos g, if_pos g]
    rw [e1, e99] at g
    obtain ⟨T, h1, h9, rfl⟩ := (in_nI (by decide) (by decide)).mp g
    obtain ⟨ζ', η', μ1, a1, a2, S1, p1⟩ := S.rec
    obtain ⟨σ', μ', G', acc', g1, g2, g3, g4, g5, g6⟩ := both_hours (N := N) h9 (by omega) T 0 FU FU n0 μ1 G 0 (by omega) (FU_big (by omega)) (FU_big (by omega)) S.wf S.cl S1.mo
    rw [← e0] at g1 g2
    unfold f_X4_letHoursPass f_X6_hoursPass
    rw [a1, a2, Option.bind_some, Option.bind_some, g1, g2]
    exact ⟨_, _, ζ', η', _, rfl, rfl, _, _, _, S1.chg' (by omega) (by omega) (wf_mono g5 (by omega) (by omega)) g3 g4 g6⟩
  · rw [if_neg g, if_neg g]; exact S.no (by omega) (by omega) _
