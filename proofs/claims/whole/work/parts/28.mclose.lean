/-! the reference: hours, distances, closing -/
theorem mo_slip_up {s : Row} {b : Nat} {G : NB} (M : Mod s b G) {k c : Nat} (h12 : k < 12) (hc : c < 4) (x : Nat) : Mod (upd s (b + 16 + 20 * k + 4 + 4 * c + 1) (nI x)) b (setN G 8 (k * 4 + c) x) := by
  refine ⟨?_, fun h h1 h2 => ?_, fun k' hk => ?_, fun k' c' hk hc' => ?_⟩
  · simp (disch := omega) only [pk_un]
    exact M.1
  · simp (disch := omega) only [pk_un]
    exact M.2.1 h h1 h2
  · have hk' : k' < G 0 0 := hk
    simp (disch := omega) only [pk_un]
    exact M.2.2.1 k' hk'
  · have hk' : k' < G 0 0 := hk
    have m := M.2.2.2 k' c' hk' hc'
    by_cases e : k' = k ∧ c' = c
    · obtain ⟨rfl, rfl⟩ := e
      simp (disch := omega) only [pk_un, pk_us]
      refine ⟨m.1, ?_, m.2.2⟩
      simp [setN_app]
    · simp (disch := omega) only [pk_un]
      have ne : ¬ k' * 4 + c' = k * 4 + c := fun q => e ⟨by omega, by omega⟩
      simp only [setN_app, ne, and_false, if_false]
      exact m
theorem mo_seen_up {s : Row} {b : Nat} {G : NB} (M : Mod s b G) {k c : Nat} (h12 : k < 12) (hc : c < 4) (x : Nat) : Mod (upd s (b + 16 + 20 * k + 4 + 4 * c + 2) (nI x)) b (setN G 9 (k * 4 + c) x) := by
  refine ⟨?_, fun h h1 h2 => ?_, fun k' hk => ?_, fun k' c' hk hc' => ?_⟩
  · simp (disch := omega) only [pk_un]
    exact M.1
  · simp (disch := omega) only [pk_un]
    exact M.2.1 h h1 h2
  · have hk' : k' < G 0 0 := hk
    simp (disch := omega) only [pk_un]
    exact M.2.2.1 k' hk'
  · have hk' : k' < G 0 0 := hk
    have m := M.2.2.2 k' c' hk' hc'
    by_cases e : k' = k ∧ c' = c
    · obtain ⟨rfl, rfl⟩ := e
      simp (disch := omega) only [pk_un, pk_us]
      refine ⟨m.1, m.2.1, ?_, m.2.2.2⟩
      simp [setN_app]
    · simp (disch := omega) only [pk_un]
      have ne : ¬ k' * 4 + c' = k * 4 + c := fun q => e ⟨by omega, by omega⟩
      simp only [setN_app, ne, and_false, if_false]
      exact m
/-- a stile's own cell: 3 first, 4 second, 5 ways, 6 repair -/
theorem mo_own_up {s : Row} {b : Nat} {G : NB} (M : Mod s b G) {k j : Nat} (h12 : k < 12) (hj : j < 4) (x : Nat) : Mod (upd s (b + 16 + 20 * k + j) (nI x)) b (setN G (3 + j) k x) := by
  refine ⟨?_, fun h h1 h2 => ?_, fun k' hk => ?_, fun k' c' hk hc' => ?_⟩
  · simp (disch := omega) only [pk_un]
    simp only [setN_app, show ¬ (0 = 3 + j) by omega, false_and, if_false]
    exact M.1
  · simp (disch := omega) only [pk_un]
    simp only [setN_app, show ¬ (1 = 3 + j) by omega, show ¬ (2 = 3 + j) by omega, false_and, if_false]
    exact M.2.1 h h1 h2
  · have hk' : k' < G 0 0 := by
      simpa only [setN_app, show ¬ (0 = 3 + j) by omega, false_and, if_false] using hk
    have m := M.2.2.1 k' hk'
    by_cases e : k' = k
    · subst e
      have hj4 : j = 0 ∨ j = 1 ∨ j = 2 ∨ j = 3 := by omega
      rcases hj4 with rfl | rfl | rfl | rfl
      · simp (disch := omega) only [Nat.add_zero, pk_un, pk_us]
        exact ⟨by simp [setN_app], m.2.1, m.2.2.1, m.2.2.2⟩
      · simp (disch := omega) only [pk_un, pk_us]
        exact ⟨m.1, by simp [setN_app], m.2.2.1, m.2.2.2⟩
      · simp (disch := omega) only [pk_un, pk_us]
        exact ⟨m.1, m.2.1, by simp [setN_app], m.2.2.2⟩
      · simp (disch := omega) only [pk_un, pk_us]
        exact ⟨m.1, m.2.1, m.2.2.1, by simp [setN_app]⟩
    · simp (disch := omega) only [pk_un]
      simp only [setN_app, e, and_false, if_false]
      exact m
  · have hk' : k' < G 0 0 := by
      simpa only [setN_app, show ¬ (0 = 3 + j) by omega, false_and, if_false] using hk
    simp (disch := omega) only [pk_un]
    simp only [setN_app, show ¬ (7 = 3 + j) by omega, show ¬ (8 = 3 + j) by omega, show ¬ (9 = 3 + j) by omega, show ¬ (10 = 3 + j) by omega, false_and, if_false]
    exact M.2.2.2 k' c' hk' hc'
theorem mo_clk_up {s : Row} {b : Nat} {G : NB} (M : Mod s b G) (x : Nat) : Mod (upd s (b + 2) (nI x)) b (setN G 0 3 x) := by
  refine ⟨?_, fun h h1 h2 => ?_, fun k' hk => ?_, fun k' c' hk hc' => ?_⟩
  · simp (disch := omega) only [pk_un, pk_us]
    exact ⟨M.1.1, M.1.2.1, by simp [setN_app], M.1.2.2.2⟩
  · simp (disch := omega) only [pk_un]
    exact M.2.1 h h1 h2
  · simp (disch := omega) only [pk_un]
    exact M.2.2.1 k' hk
  · simp (disch := omega) only [pk_un]
    exact M.2.2.2 k' c' hk hc'
theorem mo_ens_loop {b k : Nat} {G : NB} (x1 x2 x3 : Int32) (hb' : b ≤ 1792) (hk : k < G 0 0) (h12 : k < 12) (h6 : G 6 k = 0) : ∀ (d c n : Nat) (μ : Blk), c + d = 4 → d < n → Mod (μ 1) b (ens G k c) → ∃ μ', f_X6_hour_I83 x1 x2 x3 (nI (b + 16 + 20 * k)) n μ (nI c) = some μ' ∧ Mod (μ' 1) b (ens G k 4) ∧ Same b μ μ' := by
  intro d
  induction d with
  | zero =>
    intro c n μ hc hn M
    obtain ⟨n, rfl⟩ : ∃ m, n = m + 1 := ⟨n - 1, by omega⟩
    have hc4 : c = 4 := by omega
    subst hc4
    exact ⟨μ, by rw [f_X6_hour_I83, if_pos (by decide)], M, Same.rf⟩
  | succ d ih =>
    intro c n μ hc hn M
    obtain ⟨n, rfl⟩ : ∃ m, n = m + 1 := ⟨n - 1, by omega⟩
    have m6 := (M.2.2.1 k (by simpa [ens] using hk)).2.2.2
    have h6' : ens G k c 6 k = 0 := by simp [ens, h6]
    rw [h6'] at m6
    have up := mo_slip_up M (k := k) (c := c) h12 (by omega) 0
    have up2 : Mod (upd (μ 1) (b + 16 + 20 * k + 4 + 4 * c + 1) (nI 0)) b (ens G k (c + 1)) := by
      refine up.cong fun p j => ?_
      simp only [ens, setN_app]
      by_cases a : p = 8
      · subst a
        by_cases e : j = k * 4 + c
        · subst e; simp
        · simp only [e, and_false, if_false, true_and]
          repeat' split
          all_goals first | rfl | omega
      · simp [a]
    obtain ⟨μ', e, M', S'⟩ := ih (c + 1) n (upR μ 1 (upd (μ 1) (b + 16 + 20 * k + 4 + 4 * c + 1) (nI 0))) (by omega) (by omega) (by rw [upR_app, if_pos rfl]; exact up2)
    refine ⟨μ', ?_, M', (Same.up (by omega) (by omega)).tr S'⟩
    rw [f_X6_hour_I83, e4, if_neg (nI_ge (by omega) (by decide))]
    simp only [e0, e1, e3, nI_mul, nI_add, lt]
    simp (disch := omega) only [ib_nI, nI_clamp, if_true, m6]
    exact e
theorem mo_ens_no {b k v : Nat} (x1 x2 x3 : Int32) (hb' : b ≤ 1792) (h12 : k < 12) {μ : Blk} (m6 : μ 1 (b + 16 + 20 * k + 3) = nI v) (h6 : v ≠ 0) (hv : v < 2 ^ 31) : f_X6_hour_I83 x1 x2 x3 (nI (b + 16 + 20 * k)) FU μ (nI 0) = some μ := by
  obtain ⟨n, hn⟩ := FU_s 1 (by decide)
  rw [hn, f_X6_hour_I83, if_neg (by decide)]
  simp only [e0, e3, nI_add]
  simp (disch := omega) only [ib_nI, nI_clamp, if_true, m6, nI_eq, h6, if_false]
theorem mo_hour_loop {b : Nat} {G : NB} {N clk : Nat} (Wf : WF N G) (hb' : b ≤ 1792) : ∀ (d j n : Nat) (μ : Blk), j + d = G 0 0 → d < n → Mod (μ 1) b (setN (hrp G j) 0 3 clk) → ∃ μ', f_X6_hour_L16 (nI b) n μ (nI (ovr G j)) (nI j) = some (nI (ovr G (G 0 0)), μ') ∧ Mod (μ' 1) b (setN (hrp G (G 0 0)) 0 3 clk) ∧ Same b μ μ' := by
  have hm := Wf.2.1.1
  intro d
  induction d with
  | zero =>
    intro j n μ hj hn M
    obtain ⟨n, rfl⟩ : ∃ m, n = m + 1 := ⟨n - 1, by omega⟩
    have hj' : j = G 0 0 := by omega
    subst hj'
    have m0 : μ 1 (b + 3) = nI (G 0 0) := M.1.2.2.2
    refine ⟨μ, ?_, M, Same.rf⟩
    rw [f_X6_hour_L16, e3, nI_add]
    simp (disch := omega) only [ib_nI, nI_clamp, if_true, m0]
    rw [if_pos (nI_le (Nat.le_refl _) (by omega))]
  | succ d ih =>
    intro j n μ hj hn M
    obtain ⟨n, rfl⟩ : ∃ m, n = m + 1 := ⟨n - 1, by omega⟩
    have j12 : j < 12 := by omega
    have hj0 : j < G 0 0 := by omega
    have m0 : μ 1 (b + 3) = nI (G 0 0) := M.1.2.2.2
    have m6 : μ 1 (b + 16 + 20 * j + 3) = nI (G 6 j) := by
      have := (M.2.2.1 j hj0).2.2.2
      simpa [setN_app, hrp] using this
    have w6 := (Wf.2.2.2.1 j j12).2.2.2
    rw [f_X6_hour_L16]
    simp only [e0, e1, e3, mo_place, nI_add, lt]
    simp (disch := omega) only [ib_nI, nI_clamp, if_true, m0, m6, upR_app, pk_us]
    rw [if_neg (nI_ge (by omega) (by omega))]
    by_cases a : G 6 j = 0
    · rw [if_pos (by rw [a]; decide), show ovr G j = ovr G (j + 1) by simp [ovr, a]]
      refine ih (j + 1) n μ (by omega) (by omega) (M.cong fun p i => ?_)
      simp only [setN_app]
      by_cases p0 : p = 0 ∧ i = 3
      · rw [if_pos p0, if_pos p0]
      · rw [if_neg p0, if_neg p0]
        simp only [hrp]
        by_cases p8 : p = 8
        · subst p8
          simp only [show ¬ (8 = 6) by decide, false_and, if_false, true_and]
          by_cases r : i / 4 < j ∧ G 6 (i / 4) = 1
          · rw [if_pos r, if_pos (by omega)]
          · rw [if_neg r, if_neg (fun c => by
              by_cases e : i / 4 = j
              · rw [e] at c; omega
              · exact r ⟨by omega, c.2⟩)]
        · by_cases p6 : p = 6
          · subst p6
            by_cases e : i = j
            · subst e; simp [a]
            · by_cases l : i < j
              · simp [l, show i < j + 1 by omega]
              · simp [l, show ¬ i < j + 1 by omega]
          · simp [p8, p6]
    · rw [if_neg (nI_ge (show 0 < G 6 j by omega) (by omega)), nI_sub (by omega)]
      have up := mo_own_up M (k := j) (j := 3) j12 (by decide) (G 6 j - 1)
      have wz : setN (setN (hrp G j) 0 3 clk) (3 + 3) j (G 6 j - 1) 0 0 = G 0 0 := by simp [setN_app, hrp]
      by_cases o : G 6 j = 1
      · rw [if_pos (by rw [o])]
        have M1 : Mod ((upR μ 1 (upd (μ 1) (b + 16 + 20 * j + 3) (nI (G 6 j - 1)))) 1) b (ens (setN (setN (hrp G j) 0 3 clk) (3 + 3) j (G 6 j - 1)) j 0) := by
          rw [upR_app, if_pos rfl]
          exact up.cong fun p i => by simp only [ens]; rw [if_neg (by omega)]
        obtain ⟨μ2, e2, M2, S2⟩ := mo_ens_loop (b := b) (k := j) (G := setN (setN (hrp G j) 0 3 clk) (3 + 3) j (G 6 j - 1)) (nI b) (nI (ovr G j + 1)) (nI j) hb' (by rw [wz]; exact hj0) j12 (by simp [setN_app, o]) 4 0 FU _ rfl (by decide) M1
        rw [e2, Option.bind_some, show ovr G j + 1 = ovr G (j + 1) by simp [ovr, o]]
        obtain ⟨μ', e', M', S'⟩ := ih (j + 1) n μ2 (by omega) (by omega) (M2.cong fun p i => by
          simp only [ens, setN_app, hrp]
          by_cases p8 : p = 8
          · subst p8
            by_cases q : j * 4 ≤ i ∧ i < j * 4 + 4
            · have hq : i / 4 = j := by omega
              simp [q, hq, o]
            · have hq : ¬ i / 4 = j := by omega
              simp only [q, and_false, if_false, true_and, false_and, show ¬ (8 = 6) by decide, show ¬ (8 = 0) by decide, show ¬ (8 = 3 + 3) by decide]
              by_cases r : i / 4 < j ∧ G 6 (i / 4) = 1
              · rw [if_pos r, if_pos (by omega)]
              · rw [if_neg r, if_neg (fun c => r ⟨by omega, c.2⟩)]
          · by_cases p6 : p = 6
            · subst p6
              by_cases e : i = j
              · subst e; simp
              · by_cases l : i < j
                · simp [e, l, show i < j + 1 by omega]
                · simp [e, l, show ¬ i < j + 1 by omega]
            · simp [p8, p6])
        exact ⟨μ', e', M', ((Same.up (by omega) (by omega)).tr S2).tr S'⟩
      · rw [if_neg (fun z => absurd ((nI_eq (by omega) (by decide)).mp z) (by omega))]
        have up' : Mod ((upR μ 1 (upd (μ 1) (b + 16 + 20 * j + 3) (nI (G 6 j - 1)))) 1) b (setN (hrp G (j + 1)) 0 3 clk) := by
          rw [upR_app, if_pos rfl]
          refine up.cong fun p i => ?_
          simp only [setN_app, hrp]
          by_cases p8 : p = 8
          · subst p8
            simp only [show ¬ (8 = 6) by decide, show ¬ (8 = 0) by decide, show ¬ (8 = 3 + 3) by decide, false_and, if_false, true_and]
            by_cases r : i / 4 < j ∧ G 6 (i / 4) = 1
            · rw [if_pos r, if_pos (by omega)]
            · rw [if_neg r, if_neg (fun c => by
                by_cases e : i / 4 = j
                · rw [e] at c; exact o c.2
                · exact r ⟨by omega, c.2⟩)]
          · by_cases p6 : p = 6
            · subst p6
              by_cases e : i = j
              · subst e; simp
              · by_cases l : i < j
                · simp [e, l, show i < j + 1 by omega]
                · simp [e, l, show ¬ i < j + 1 by omega]
            · simp [p8, p6]
        rw [mo_ens_no (b := b) (k := j) (v := G 6 j - 1) _ _ _ hb' j12 (by rw [upR_app, if_pos rfl, pk_us]) (by omega) (by omega), Option.bind_some, show ovr G j + 0 = ovr G (j + 1) by simp [ovr, o]]
        obtain ⟨μ', e', M', S'⟩ := ih (j + 1) n _ (by omega) (by omega) up'
        exact ⟨μ', e', M', (Same.up (by omega) (by omega)).tr S'⟩
theorem mo_hour {μ : Blk} {b : Nat} {G : NB} {N : Nat} (M : Mod (μ 1) b G) (Wf : WF N G) (hb' : b ≤ 1792) : ∃ μ', f_X6_hour μ (nI b) = some (nI (ovr G (G 0 0)), μ') ∧ Mod (μ' 1) b (hr G) ∧ Same b μ μ' := by
  have hm := Wf.2.1.1
  have m2 := M.1.2.2.1
  have up := mo_clk_up M (G 0 3 + 1)
  obtain ⟨μ', e, M', S'⟩ := mo_hour_loop (b := b) (clk := G 0 3 + 1) Wf hb' (G 0 0) 0 FU (upR μ 1 (upd (μ 1) (b + 2) (nI (G 0 3 + 1)))) (by omega) (FU_big (by omega)) (by
    rw [upR_app, if_pos rfl]
    exact up.cong fun p i => by simp [setN_app, hrp])
  refine ⟨μ', ?_, M', (Same.up (by omega) (by omega)).tr S'⟩
  unfold f_X6_hour lt
  simp only [e0, e1, e2, nI_add]
  simp (disch := omega) only [ib_nI, nI_clamp, if_true, m2, nI_add]
  exact e
