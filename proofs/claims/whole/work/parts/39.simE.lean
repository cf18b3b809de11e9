/-! class and reference side by side: emptyIn, leftWithout, stile -/
theorem e1792 : (1792 : Int32) = nI 1792 := by decide
theorem e300 : (300 : Int32) = nI 300 := by decide
theorem cll_in {D : Nat → Nat} {G : NB} : ∀ j, (cll D G j).2 = 0 → (cll D G j).1 = G ∧ ∀ k ff, k < j → lvn D G k ff = 0 := by
  intro j
  induction j with
  | zero => exact fun _ => ⟨rfl, fun k ff hk => absurd hk (Nat.not_lt_zero _)⟩
  | succ j ih =>
    intro h
    have h' : (cll D G j).2 + lvn D (cll D G j).1 j true + lvn D (lvs D (cll D G j).1 j true) j false = 0 := h
    obtain ⟨g1, g2⟩ := ih (by omega)
    rw [g1] at h'
    have l1 : lvn D G j true = 0 := by omega
    have s1 : lvs D G j true = G := by unfold lvs; rw [l1, pas_0]
    rw [s1] at h'
    have l2 : lvn D G j false = 0 := by omega
    have s2 : lvs D G j false = G := by unfold lvs; rw [l2, pas_0]
    refine ⟨?_, fun k ff hk => ?_⟩
    · show lvs D (lvs D (cll D G j).1 j true) j false = G
      rw [g1, s1, s2]
    · by_cases e : k = j
      · subst e; cases ff
        · exact l2
        · exact l1
      · exact g2 k ff (by omega)
theorem cll_out {D : Nat → Nat} {G : NB} : ∀ j, (∀ k ff, k < j → lvn D G k ff = 0) → cll D G j = (G, 0) := by
  intro j
  induction j with
  | zero => exact fun _ => rfl
  | succ j ih =>
    intro h
    have i := ih (fun k ff hk => h k ff (by omega))
    have s1 : lvs D G j true = G := by unfold lvs; rw [h j true (by omega), pas_0]
    have s2 : lvs D G j false = G := by unfold lvs; rw [h j false (by omega), pas_0]
    show (lvs D (lvs D (cll D G j).1 j true) j false, (cll D G j).2 + lvn D (cll D G j).1 j true + lvn D (lvs D (cll D G j).1 j true) j false) = (G, 0)
    rw [i]
    simp only []
    rw [s1, s2, h j true (by omega), h j false (by omega)]
theorem cnt_zero {P : Nat → Bool} : ∀ m, cnt P m = 0 → ∀ k, k < m → P k = false := by
  intro m
  induction m with
  | zero => exact fun _ k hk => absurd hk (Nat.not_lt_zero _)
  | succ m ih =>
    intro h k hk
    rw [cnt_s] at h
    have nm : ¬ P m = true := fun c => by rw [if_pos c] at h; omega
    by_cases e : k = m
    · subst e; simpa using nm
    · exact ih (by omega) k (by omega)
/-- nobody moves, and nothing is under repair -/
def Stk (G : NB) : Prop := (∀ k ff, k < G 0 0 → lvn (dst G) G k ff = 0) ∧ ∀ k, k < G 0 0 → G 6 k = 0
theorem stk_of {G : NB} (h : clp G = 0) (h6 : cnt (fun k => decide (0 < G 6 k)) (G 0 0) = 0) : Stk G :=
  ⟨(cll_in (G 0 0) h).2, fun k hk => by
    have := cnt_zero _ h6 k hk
    simp only [decide_eq_false_iff_not] at this
    omega⟩
theorem edge_clk (G : NB) (v a b : Nat) : edge (setN G 0 3 v) a b = edge G a b := rfl
theorem rch_clk (G : NB) (v : Nat) : ∀ n h, rch (setN G 0 3 v) n h = rch G n h := by
  intro n
  induction n with
  | zero => exact fun h => rfl
  | succ n ih =>
    intro h
    show (rch (setN G 0 3 v) n h ∨ ∃ w, w < 6 ∧ edge (setN G 0 3 v) h w ∧ rch (setN G 0 3 v) n w) = (rch G n h ∨ ∃ w, w < 6 ∧ edge G h w ∧ rch G n w)
    simp only [ih, edge_clk]
theorem dst_clk (G : NB) (v : Nat) : dst (setN G 0 3 v) = dst G := by
  funext h
  unfold dst isD lst
  simp only [rch_clk]
theorem lvn_clk (D : Nat → Nat) (G : NB) (v k : Nat) (ff : Bool) : lvn D (setN G 0 3 v) k ff = lvn D G k ff := rfl
theorem stk_clo {G : NB} (h : Stk G) : clp G = 0 ∧ clo G = setN G 0 3 (G 0 3 + 1) ∧ Stk (clo G) ∧ ppl (clo G) = ppl G := by
  have e := cll_out (D := dst G) (G := G) (G 0 0) h.1
  have c : clo G = setN G 0 3 (G 0 3 + 1) := by
    unfold clo
    rw [e]
    show hr G = _
    unfold hr
    have : hrp G (G 0 0) = G := by
      funext p i
      unfold hrp
      by_cases a : p = 6 ∧ i < G 0 0
      · rw [if_pos a, h.2 i a.2, a.1, h.2 i a.2]
      · rw [if_neg a]
        by_cases b : p = 8 ∧ i / 4 < G 0 0 ∧ G 6 (i / 4) = 1
        · have := h.2 _ b.2.1; omega
        · rw [if_neg b]
    rw [this]
  refine ⟨by unfold clp; rw [e], c, ?_, ?_⟩
  · rw [c]
    refine ⟨fun k ff hk => ?_, fun k hk => h.2 k hk⟩
    rw [dst_clk, lvn_clk]
    exact h.1 k ff hk
  · rw [c]; rfl
/-- a trial that is stuck stays so, hour by hour -/
theorem mo_stuck {N : Nat} (hN : N + 2000000 ≤ 536870912) : ∀ (d j n : Nat) (μ : Blk) (G : NB), j + d = 301 → d < n → WF (N + 5000 * j) G → Mod (μ 1) 1792 G → Stk G → ppl G ≠ 0 →
    ∃ μ', f_X6_emptyIn_L9 n μ (nI j) = some (-100005, μ') ∧ (∀ q, q ≠ 1 → q ≠ 3 → μ' q = μ q) ∧ ∀ i, i < 1792 → μ' 1 i = μ 1 i := by
  intro d
  induction d with
  | zero =>
    intro j n μ G hj hn W M K hp
    obtain ⟨n, rfl⟩ : ∃ r, n = r + 1 := ⟨n - 1, by omega⟩
    refine ⟨μ, ?_, fun _ _ _ => rfl, fun _ _ => rfl⟩
    rw [f_X6_emptyIn_L9, show j = 301 by omega, if_pos (by decide), if_neg (by decide)]
  | succ d ih =>
    intro j n μ G hj hn W M K hp
    obtain ⟨n, rfl⟩ : ∃ r, n = r + 1 := ⟨n - 1, by omega⟩
    have mp := mo_ppl M (by decide)
    rw [← e1792] at mp
    have pl := ppl_le W
    obtain ⟨k1, k2, k3, k4⟩ := stk_clo K
    obtain ⟨μ1, m1, m2, m3, m4⟩ := mo_close M W (by omega) (by decide)
    rw [← e1792] at m1
    have W1 : WF (N + 5000 * (j + 1)) (clo G) := by
      have ee : N + 5000 * (j + 1) = N + 5000 * j + 5000 := by omega
      have e2' : N + 5000 * j + 5000 ≤ 536870912 := by omega
      rw [ee]
      generalize N + 5000 * j = Q at W e2'
      exact clo_wf W (Nat.le_refl _) e2'
    obtain ⟨μ', g1, g2, g3⟩ := ih (j + 1) n μ1 (clo G) (by omega) (by omega) W1 m2 k3 (by rw [k4]; exact hp)
    refine ⟨μ', ?_, fun q h1 h3 => (g2 q h1 h3).trans (m3 q h1 h3), fun i hi => (g3 i hi).trans (m4 i (.inl hi))⟩
    rw [f_X6_emptyIn_L9, if_neg (show ¬ (300 : Int32) < nI j by rw [e300]; exact nI_nlt (by omega) (by decide)), mp, Option.bind_some, if_neg (show ¬ nI (ppl G) ≤ 0 by rw [e0]; exact nI_ge (by omega) (by omega)), m1, Option.bind_some, nI_1]
    exact g1
theorem both_empty {hs : Int32} {n0 n1 : Blk} {ζ : Row} {η : Nat → Blk} {χ : Blk} {N : Nat} (hN : N + 2000000 ≤ 536870912) : ∀ (d j n m : Nat) (σ μ : Blk) (δ : Row) (G : NB), j + d = 300 → d < n → d + 1 < m → WF (N + 5000 * j) G → Cls σ G → Mod (μ 1) 1792 G →
    ∃ r σ' δ' μ', f_X5_emptyIn_L13 hs n0 n1 ζ η χ n σ δ (nI j) = some (r, σ', δ') ∧ f_X6_emptyIn_L9 m μ (nI j) = some (r, μ') ∧ (∀ q, q ≠ 1 → q ≠ 3 → μ' q = μ q) ∧ ∀ i, i < 1792 → μ' 1 i = μ 1 i := by
  intro d
  induction d with
  | zero =>
    intro j n m σ μ δ G hj hn hm W C M
    obtain ⟨n, rfl⟩ : ∃ r, n = r + 1 := ⟨n - 1, by omega⟩
    obtain ⟨m, rfl⟩ : ∃ r, m = r + 2 := ⟨m - 2, by omega⟩
    have ej : j = 300 := by omega
    subst ej
    have mp := mo_ppl M (by decide)
    rw [← e1792] at mp
    have pl := ppl_le W
    rw [f_X5_emptyIn_L13, if_pos (by decide), cl_ppl C, Option.bind_some, f_X6_emptyIn_L9, if_neg (show ¬ (300 : Int32) < nI 300 by decide), mp, Option.bind_some]
    by_cases p : ppl G = 0
    · rw [p, if_pos (by decide), if_pos (by decide), if_pos (by decide)]
      exact ⟨_, _, _, _, rfl, rfl, fun _ _ _ => rfl, fun _ _ => rfl⟩
    · obtain ⟨μ1, m1, m2, m3, m4⟩ := mo_close M W (by omega) (by decide)
      rw [← e1792] at m1
      rw [if_neg (show ¬ nI (ppl G) = 0 by rw [e0]; intro c; exact p ((nI_eq (by omega) (by decide)).mp c)), if_neg (show ¬ nI (ppl G) ≤ 0 by rw [e0]; exact nI_ge (by omega) (by omega)), m1, Option.bind_some, nI_1, f_X6_emptyIn_L9, if_pos (by decide), if_neg (by decide)]
      exact ⟨_, _, _, _, rfl, rfl, m3, fun i hi => m4 i (.inl hi)⟩
  | succ d ih =>
    intro j n m σ μ δ G hj hn hm W C M
    obtain ⟨n, rfl⟩ : ∃ r, n = r + 1 := ⟨n - 1, by omega⟩
    obtain ⟨m, rfl⟩ : ∃ r, m = r + 1 := ⟨m - 1, by omega⟩
    have mp := mo_ppl M (by decide)
    rw [← e1792] at mp
    have pl := ppl_le W
    have cl12 := W.2.1.1
    have cle := cnt_le (fun k => decide (0 < G 6 k)) (G 0 0)
    have cp := clp_le W
    rw [f_X5_emptyIn_L13, if_neg (show ¬ (300 : Int32) ≤ nI j by rw [e300]; exact nI_ge (by omega) (by decide)), cl_ppl C, Option.bind_some, f_X6_emptyIn_L9, if_neg (show ¬ (300 : Int32) < nI j by rw [e300]; exact nI_nlt (by omega) (by decide)), mp, Option.bind_some]
    by_cases p : ppl G = 0
    · rw [p, if_pos (by decide), if_pos (by decide), if_pos (show nI j ≤ 300 by rw [e300]; exact nI_le (by omega) (by decide))]
      exact ⟨_, _, _, _, rfl, rfl, fun _ _ _ => rfl, fun _ _ => rfl⟩
    · obtain ⟨δ1, σ1, c1, c2⟩ := cl_close (δ := δ) C W (by omega)
      obtain ⟨μ1, m1, m2, m3, m4⟩ := mo_close M W (by omega) (by decide)
      rw [← e1792] at m1
      have W1 : WF (N + 5000 * (j + 1)) (clo G) := by
        have ee : N + 5000 * (j + 1) = N + 5000 * j + 5000 := by omega
        have e2' : N + 5000 * j + 5000 ≤ 536870912 := by omega
        rw [ee]
        generalize N + 5000 * j = Q at W e2'
        exact clo_wf W (Nat.le_refl _) e2'
      obtain ⟨r, σ', δ', μ', g1, g2, g3, g4⟩ := ih (j + 1) n m σ1 μ1 δ1 (clo G) (by omega) (by omega) (by omega) W1 c2 m2
      have G3 : ∀ q, q ≠ 1 → q ≠ 3 → μ' q = μ q := fun q h1 h3 => (g3 q h1 h3).trans (m3 q h1 h3)
      have G4 : ∀ i, i < 1792 → μ' 1 i = μ 1 i := fun i hi => (g4 i hi).trans (m4 i (.inl hi))
      rw [if_neg (show ¬ nI (ppl G) = 0 by rw [e0]; intro c; exact p ((nI_eq (by omega) (by decide)).mp c)), if_neg (show ¬ nI (ppl G) ≤ 0 by rw [e0]; exact nI_ge (by omega) (by omega)), cl_under C W, Option.bind_some, m1, Option.bind_some, nI_1, c1]
      simp only [Option.bind_some]
      by_cases u : cnt (fun k => decide (0 < G 6 k)) (G 0 0) = 0
      · rw [u, if_pos (by decide)]
        by_cases z : clp G = 0
        · rw [z, if_pos (by decide)]
          obtain ⟨k1, k2, k3, k4⟩ := stk_clo (stk_of z u)
          obtain ⟨μ2, s1, s2, s3⟩ := mo_stuck hN (301 - (j + 1)) (j + 1) m μ1 (clo G) (by omega) (by omega) W1 m2 k3 (by rw [k4]; exact p)
          exact ⟨_, _, _, _, rfl, s1, fun q h1 h3 => (s2 q h1 h3).trans (m3 q h1 h3), fun i hi => (s3 i hi).trans (m4 i (.inl hi))⟩
        · rw [if_neg (show ¬ nI (clp G) = 0 by rw [e0]; intro c; exact z ((nI_eq (by omega) (by decide)).mp c))]
          exact ⟨r, σ', δ', μ', g1, g2, G3, G4⟩
      · rw [if_neg (show ¬ nI (cnt (fun k => decide (0 < G 6 k)) (G 0 0)) ≤ 0 by rw [e0]; exact nI_ge (by omega) (by omega))]
        by_cases z : nI (clp G) = 0
        · rw [if_pos z]; exact ⟨r, σ', δ', μ', g1, g2, G3, G4⟩
        · rw [if_neg z]; exact ⟨r, σ', δ', μ', g1, g2, G3, G4⟩
/-- a trial leaves the rest -/
theorem St.trial {N : Nat} {G : NB} {z : Nat} {H : Nat → NB} {hs : Int32} {n0 n1 : Blk} {ζ : Row} {η : Nat → Blk} {χ μ : Blk} (S : St N G z H hs n0 n1 ζ η χ μ) {M : Nat} {μ' : Blk} (h : N ≤ M) (h2 : M ≤ 536870912) (g3 : ∀ q, q ≠ 1 → q ≠ 3 → μ' q = μ q) (g4 : ∀ i, i < 1792 → μ' 1 i = μ 1 i) : Inv M hs n0 n1 ζ η χ μ' :=
  ⟨_, _, _, S.chg h h2 (wf_mono S.wf h h2) S.cl (S.mo.shift S.wf.2.1.1 (fun i hi => g4 _ (by omega))) (fun j _ => congrFun (g3 0 (by decide) (by decide)) j) (g3 2 (by decide) (by decide)) (fun j _ q => g4 j q) rfl rfl⟩
theorem sim_emptyIn {N : Nat} {G : NB} {z : Nat} {H : Nat → NB} {hs : Int32} {n0 n1 : Blk} {ζ : Row} {η : Nat → Blk} {χ μ : Blk} (S : St N G z H hs n0 n1 ζ η χ μ) (hN : N + 2600000 ≤ 536870912) (n2 : Blk) (δ : Row) : ∃ r n2' δ' μ', f_X5_emptyIn hs n0 n1 n2 ζ η δ χ = some (r, n2', δ') ∧ f_X6_emptyIn μ = some (r, μ') ∧ Inv (N + 500000) hs n0 n1 ζ η χ μ' := by
  have hm := S.wf.2.1.1
  obtain ⟨μ1, b1, b2, b3⟩ := mo_copies (μ := μ) (f := 0) (t := 7) (by decide) (by decide) (by decide)
  obtain ⟨σ', c1, c2⟩ := cl_copy (σ := n2) S.cl
  have M7 : Mod (μ1 1) 1792 G := cps_to (t := 7) b3 (by simpa using S.mo) hm
  have e7 : (7 : Int32) = nI 7 := by decide
  rw [← e0, ← e7] at b1
  obtain ⟨r, σ2, δ', μ', g1, g2, g3, g4⟩ := both_empty (hs := hs) (n0 := n0) (n1 := n1) (ζ := ζ) (η := η) (χ := χ) (N := N) (by omega) 300 0 FU FU σ' μ1 δ G (by omega) (FU_big (by decide)) (FU_big (by decide)) S.wf c2 M7
  rw [← e0] at g1 g2
  unfold f_X5_emptyIn f_X6_emptyIn
  rw [c1, b1, Option.bind_some, Option.bind_some]
  refine ⟨r, σ2, δ', μ', g1, g2, S.trial (by omega) (by omega) (fun q h1 h3 => (g3 q h1 h3).trans (b2 q h1)) (fun i hi => (g4 i hi).trans ?_)⟩
  rw [b3]; unfold cps; rw [if_neg (by omega)]
theorem both_left {hs : Int32} {n0 n1 : Blk} {ζ : Row} {η : Nat → Blk} {χ : Blk} {N T : Nat} (hT : T ≤ 99) (hN : N + 2000000 ≤ 536870912) : ∀ (d j n m : Nat) (σ μ : Blk) (δ : Row) (G : NB), j + d = T → d < n → d < m → WF (N + 5000 * j) G → Cls σ G → Mod (μ 1) 1792 G →
    ∃ r σ' δ' μ', f_X5_leftWithout_L49 hs n0 n1 ζ η χ (nI T) n σ δ (nI j) = some (r, σ', δ') ∧ f_X6_leftWithout_L48 (nI T) m μ (nI j) = some (r, μ') ∧ (∀ q, q ≠ 1 → q ≠ 3 → μ' q = μ q) ∧ ∀ i, i < 1792 → μ' 1 i = μ 1 i := by
  intro d
  induction d with
  | zero =>
    intro j n m σ μ δ G hj hn hm W C M
    obtain ⟨n, rfl⟩ : ∃ r, n = r + 1 := ⟨n - 1, by omega⟩
    obtain ⟨m, rfl⟩ : ∃ r, m = r + 1 := ⟨m - 1, by omega⟩
    have mp := mo_ppl M (by decide)
    rw [← e1792] at mp
    rw [f_X5_leftWithout_L49, if_pos (nI_le (by omega) (by omega)), cl_ppl C, f_X6_leftWithout_L48, if_pos (nI_le (by omega) (by omega)), mp]
    exact ⟨_, _, _, _, rfl, rfl, fun _ _ _ => rfl, fun _ _ => rfl⟩
  | succ d ih =>
    intro j n m σ μ δ G hj hn hm W C M
    obtain ⟨n, rfl⟩ : ∃ r, n = r + 1 := ⟨n - 1, by omega⟩
    obtain ⟨m, rfl⟩ : ∃ r, m = r + 1 := ⟨m - 1, by omega⟩
    obtain ⟨δ1, σ1, c1, c2⟩ := cl_close (δ := δ) C W (by omega)
    obtain ⟨μ1, m1, m2, m3, m4⟩ := mo_close M W (by omega) (by decide)
    rw [← e1792] at m1
    have W1 : WF (N + 5000 * (j + 1)) (clo G) := by
      have ee : N + 5000 * (j + 1) = N + 5000 * j + 5000 := by omega
      have e2' : N + 5000 * j + 5000 ≤ 536870912 := by omega
      rw [ee]
      generalize N + 5000 * j = Q at W e2'
      exact clo_wf W (Nat.le_refl _) e2'
    obtain ⟨r, σ', δ', μ', g1, g2, g3, g4⟩ := ih (j + 1) n m σ1 μ1 δ1 (clo G) (by omega) (by omega) (by omega) W1 c2 m2
    rw [f_X5_leftWithout_L49, if_neg (nI_ge (by omega) (by omega)), c1, Option.bind_some, f_X6_leftWithout_L48, if_neg (nI_ge (by omega) (by omega)), m1, Option.bind_some, nI_1]
    exact ⟨r, σ', δ', μ', g1, g2, fun q h1 h3 => (g3 q h1 h3).trans (m3 q h1 h3), fun i hi => (g4 i hi).trans (m4 i (.inl hi))⟩
theorem sim_leftWithout {N : Nat} {G : NB} {z : Nat} {H : Nat → NB} {hs : Int32} {n0 n1 : Blk} {ζ : Row} {η : Nat → Blk} {χ μ : Blk} (S : St N G z H hs n0 n1 ζ η χ μ) (hN : N + 2600000 ≤ 536870912) (n2 : Blk) (δ : Row) (x1 x2 : Int32) : ∃ r n2' δ' μ', f_X5_leftWithout hs n0 n1 n2 ζ η δ χ x1 x2 = some (r, n2', δ') ∧ f_X6_leftWithout μ x1 x2 = some (r, μ') ∧ Inv (N + 500000) hs n0 n1 ζ η χ μ' := by
  have I : Inv (N + 500000) hs n0 n1 ζ η χ μ := ⟨_, _, _, S.mono (by omega) (by omega)⟩
  unfold f_X5_leftWithout f_X6_leftWithout
  simp only [lt]
  rw [st_eq S.cl S.mo S.wf, in_hrs]
  by_cases h : f_X6_isStile μ x1 = true
  · rw [if_pos h, if_pos h]
    obtain ⟨k, hk, rfl⟩ := (mo_stile S.mo S.wf _).mp h
    by_cases g : f_X6_in x2 1 99 = true
    · rw [if_pos g, if_pos g]
      obtain ⟨T, h1, h9, rfl⟩ := (in_nI (a := 1) (b := 99) (by decide) (by decide)).mp g
      have hm := S.wf.2.1.1
      obtain ⟨μ1, b1, b2, b3⟩ := mo_copies (μ := μ) (f := 0) (t := 7) (by decide) (by decide) (by decide)
      obtain ⟨σ', c1, c2⟩ := cl_copy (σ := n2) S.cl
      have M7 : Mod (μ1 1) 1792 G := cps_to (t := 7) b3 (by simpa using S.mo) hm
      have e7 : (7 : Int32) = nI 7 := by decide
      rw [← e0, ← e7] at b1
      have C3 := cl_set c2 (p := 5) (k := k) (v := 3) (by decide)
      have M3 : Mod ((upR μ1 1 (upd (μ1 1) (1792 + 16 + 20 * k + 2) (nI 3))) 1) 1792 (setN G 5 k 3) := mo_w (mo_own_up M7 (j := 2) (by omega) (by decide) 3)
      obtain ⟨r, σ2, δ', μ', g1, g2, g3, g4⟩ := both_left (hs := hs) (n0 := n0) (n1 := n1) (ζ := ζ) (η := η) (χ := χ) (N := N) h9 (by omega) T 0 FU FU _ _ δ (setN G 5 k 3) (by omega) (FU_big (by omega)) (FU_big (by omega)) (wf_set5 S.wf hk (by decide)) C3 M3
      rw [← e0] at g1 g2
      rw [c1, b1, Option.bind_some, Option.bind_some, e3, put_k (by omega) (by decide), Option.bind_some, e1792, mo_place, e2, nI_add, ib_nI (by omega) (by decide), if_pos rfl, nI_clamp (by omega)]
      refine ⟨r, σ2, δ', μ', g1, g2, S.trial (by omega) (by omega) (fun q h1 h3 => (g3 q h1 h3).trans ?_) (fun i hi => (g4 i hi).trans ?_)⟩
      · rw [upR_app, if_neg h1]; exact b2 q h1
      · rw [upR_app, if_pos rfl, pk_un (by omega), b3]; unfold cps; rw [if_neg (by omega)]
    · rw [if_neg g, if_neg g]; exact ⟨_, _, _, _, rfl, rfl, I⟩
  · rw [if_neg h, if_neg h]; exact ⟨_, _, _, _, rfl, rfl, I⟩
/-- the state with one stile more -/
def nst (G : NB) (a b : Nat) : NB := setN (setN (setN G 3 (G 0 0) a) 4 (G 0 0) b) 0 0 (G 0 0 + 1)
theorem wf_nst {G : NB} {N a b : Nat} (Wf : WF N G) (hm : G 0 0 < 12) (ha : a < 6) (hb : b < 6) (hab : a ≠ b) : WF N (nst G a b) := by
  have z0 : nst G a b 0 0 = G 0 0 + 1 := rfl
  have k3 : ∀ j, nst G a b 3 j = if j = G 0 0 then a else G 3 j := by
    intro j; simp [nst, setN_app]
  have k4 : ∀ j, nst G a b 4 j = if j = G 0 0 then b else G 4 j := by
    intro j; simp [nst, setN_app]
  refine ⟨Wf.1, ⟨by rw [z0]; omega, Wf.2.1.2⟩, Wf.2.2.1, fun j hj => ?_, fun j hj => ?_, Wf.2.2.2.2.2.1, fun j j1 j2 => ?_, fun j j1 j2 => ?_⟩
  · have w := Wf.2.2.2.1 j hj
    refine ⟨?_, ?_, w.2.2⟩
    · rw [k3]; split
      · exact ha
      · exact w.1
    · rw [k4]; split
      · exact hb
      · exact w.2.1
  · rw [z0] at hj
    rw [k3, k4]
    by_cases e : j = G 0 0
    · rw [if_pos e, if_pos e]; exact hab
    · rw [if_neg e, if_neg e]; exact Wf.2.2.2.2.1 j (by omega)
  · rw [z0] at j1
    exact Wf.2.2.2.2.2.2.1 j (by omega) j2
  · rw [z0] at j1
    exact Wf.2.2.2.2.2.2.2 j (by omega) j2
theorem mo_nst {s s' : Row} {G : NB} {N a b : Nat} (M : Mod s 0 G) (Wf : WF N G) (hm : G 0 0 < 12) (hF : ∀ i, s' i = if i = 3 then nI (G 0 0 + 1) else if i = 0 + 16 + 20 * G 0 0 then nI a else if i = 0 + 16 + 20 * G 0 0 + 1 then nI b else if 0 + 16 + 20 * G 0 0 ≤ i ∧ i < 0 + 16 + 20 * G 0 0 + 20 then 0 else s i) : Mod s' 0 (nst G a b) := by
  have z0 : nst G a b 0 0 = G 0 0 + 1 := rfl
  have k3 : ∀ j, nst G a b 3 j = if j = G 0 0 then a else G 3 j := by
    intro j; simp [nst, setN_app]
  have k4 : ∀ j, nst G a b 4 j = if j = G 0 0 then b else G 4 j := by
    intro j; simp [nst, setN_app]
  have f1 : ∀ i, i ≠ 3 → ¬ (0 + 16 + 20 * G 0 0 ≤ i ∧ i < 0 + 16 + 20 * G 0 0 + 20) → s' i = s i := by
    intro i h1 h2
    rw [hF, if_neg h1, if_neg (by omega), if_neg (by omega), if_neg h2]
  have f2 : ∀ i, 0 + 16 + 20 * G 0 0 + 2 ≤ i → i < 0 + 16 + 20 * G 0 0 + 20 → s' i = nI 0 := by
    intro i h1 h2
    rw [hF, if_neg (by omega), if_neg (by omega), if_neg (by omega), if_pos (by omega), e0]
  refine ⟨⟨?_, ?_, ?_, ?_⟩, fun h h1 h2 => ⟨?_, ?_⟩, fun k hk => ?_, fun k c hk hc => ?_⟩
  · rw [f1 _ (by omega) (by omega)]; exact M.1.1
  · rw [f1 _ (by omega) (by omega)]; exact M.1.2.1
  · rw [f1 _ (by omega) (by omega)]; exact M.1.2.2.1
  · rw [hF, if_pos rfl, z0]
  · rw [f1 _ (by omega) (by omega)]; exact (M.2.1 h h1 h2).1
  · rw [f1 _ (by omega) (by omega)]; exact (M.2.1 h h1 h2).2
  · rw [z0] at hk
    rw [k3, k4]
    by_cases e : k = G 0 0
    · subst e
      have w := Wf.2.2.2.2.2.2.1 (G 0 0) (Nat.le_refl _) hm
      rw [if_pos rfl, if_pos rfl]
      refine ⟨by rw [hF, if_neg (by omega), if_pos rfl], by rw [hF, if_neg (by omega), if_neg (by omega), if_pos rfl], ?_, ?_⟩
      · rw [f2 _ (by omega) (by omega)]; show nI 0 = nI (G 5 (G 0 0)); rw [w.1]
      · rw [f2 _ (by omega) (by omega)]; show nI 0 = nI (G 6 (G 0 0)); rw [w.2]
    · rw [if_neg e, if_neg e, f1 _ (by omega) (by omega), f1 _ (by omega) (by omega), f1 _ (by omega) (by omega), f1 _ (by omega) (by omega)]
      exact M.2.2.1 k (by omega)
  · rw [z0] at hk
    by_cases e : k = G 0 0
    · subst e
      have w := Wf.2.2.2.2.2.2.2 (G 0 0 * 4 + c) (by omega) (by omega)
      rw [f2 _ (by omega) (by omega), f2 _ (by omega) (by omega), f2 _ (by omega) (by omega), f2 _ (by omega) (by omega)]
      show nI 0 = nI (G 7 (G 0 0 * 4 + c)) ∧ nI 0 = nI (G 8 (G 0 0 * 4 + c)) ∧ nI 0 = nI (G 9 (G 0 0 * 4 + c)) ∧ nI 0 = nI (G 10 (G 0 0 * 4 + c))
      rw [w.1, w.2.1, w.2.2.1, w.2.2.2]
      exact ⟨rfl, rfl, rfl, rfl⟩
    · rw [f1 _ (by omega) (by omega), f1 _ (by omega) (by omega), f1 _ (by omega) (by omega), f1 _ (by omega) (by omega)]
      exact M.2.2.2 k c (by omega) hc
theorem mo_zero {P a b : Nat} (hP : P + 20 ≤ 2048) : ∀ (d j n : Nat) (μ : Blk), j + d = 20 → d < n → ∃ n' μ', f_X6_stile_L61 (nI a) (nI b) (nI P) n μ (nI j) = f_X6_stile_L61 (nI a) (nI b) (nI P) (n' + 1) μ' (nI 20) ∧ (∀ p, p ≠ 1 → μ' p = μ p) ∧ ∀ i, μ' 1 i = if P + j ≤ i ∧ i < P + 20 then 0 else μ 1 i := by
  intro d
  induction d with
  | zero =>
    intro j n μ hj hn
    obtain ⟨n, rfl⟩ : ∃ m, n = m + 1 := ⟨n - 1, by omega⟩
    refine ⟨n, μ, by rw [show j = 20 by omega], fun _ _ => rfl, fun i => ?_⟩
    rw [if_neg (by omega)]
  | succ d ih =>
    intro j n μ hj hn
    obtain ⟨n, rfl⟩ : ∃ m, n = m + 1 := ⟨n - 1, by omega⟩
    obtain ⟨n', μ', g1, g2, g3⟩ := ih (j + 1) n (upR μ 1 (upd (μ 1) (P + j) 0)) (by omega) (by omega)
    refine ⟨n', μ', ?_, fun p hp => by rw [g2 p hp, upR_app, if_neg hp], fun i => ?_⟩
    · rw [← g1, f_X6_stile_L61, e20, if_neg (nI_ge (by omega) (by decide)), nI_add, ib_nI (by omega) (by decide), if_pos rfl, nI_clamp (by omega), nI_1]
      rfl
    · rw [g3, upR_app, if_pos rfl, upd_app]
      by_cases q : P + (j + 1) ≤ i ∧ i < P + 20
      · rw [if_pos q, if_pos (by omega)]
      · rw [if_neg q]
        by_cases q2 : i = P + j
        · rw [if_pos q2, if_pos (by omega)]
        · rw [if_neg q2, if_neg (by omega)]
theorem sim_stile {N : Nat} {G : NB} {z : Nat} {H : Nat → NB} {hs : Int32} {n0 n1 : Blk} {ζ : Row} {η : Nat → Blk} {χ μ : Blk} (S : St N G z H hs n0 n1 ζ η χ μ) (hN : N + 600000 ≤ 536870912) (n2 : Blk) (δ : Row) (x1 x2 : Int32) : Sim (N + 500000) hs n1 χ (f_X5_stile hs n0 n1 n2 ζ η δ χ x1 x2) (f_X6_stile μ x1 x2) := by
  unfold f_X5_stile f_X6_stile
  simp only [lt]
  rw [in_hall, in_hall]
  by_cases h : f_X6_in x1 0 5 = true
  · rw [if_pos h, if_pos h]
    by_cases g : f_X6_in x2 0 5 = true
    · rw [if_pos g, if_pos g]
      obtain ⟨a, _, ha, rfl⟩ := (in_nI (a := 0) (b := 5) (by decide) (by decide)).mp h
      obtain ⟨b, _, hb, rfl⟩ := (in_nI (a := 0) (b := 5) (by decide) (by decide)).mp g
      by_cases e : a = b
      · rw [if_pos (by rw [e]), if_pos (by rw [e])]; exact S.no (by omega) (by omega) _
      · have e' : ¬ nI a = nI b := fun c => e ((nI_eq (by omega) (by omega)).mp c)
        have hm := S.wf.2.1.1
        have c0 := S.cl.1 0 (by decide)
        have m0 : μ 1 3 = nI (G 0 0) := S.mo.1.2.2.2
        rw [if_neg e', if_neg e', c0, m0]
        by_cases f : G 0 0 = 12
        · rw [f, if_neg (by decide), if_pos (by decide)]; exact S.no (by omega) (by omega) _
        · obtain ⟨ζ', η', μ1, a1, a2, S1, p1⟩ := S.rec
          have m1 : μ1 1 3 = nI (G 0 0) := S1.mo.1.2.2.2
          rw [if_pos (show nI (G 0 0) < 12 by rw [e12]; exact nI_lt (by omega) (by decide)), if_neg (show ¬ nI (G 0 0) = 12 by rw [e12]; intro c; exact f ((nI_eq (by omega) (by decide)).mp c)), a1, a2, Option.bind_some, Option.bind_some, m1, place0]
          obtain ⟨n', μ2, g1, g2, g3⟩ := mo_zero (P := 0 + 16 + 20 * G 0 0) (a := a) (b := b) (by omega) 20 0 FU μ1 rfl (FU_big (by decide))
          rw [← e0] at g1
          unfold f_X4_putUp
          rw [c0, put_k (by omega) (by decide), Option.bind_some]
          simp only [lt]
          rw [put_k (by omega) (by decide), Option.bind_some, g1, f_X6_stile_L61, if_pos (by decide), ib_nI (by omega) (by decide), if_pos rfl, e1, nI_add, nI_add, ib_nI (by omega) (by decide), nI_clamp (by omega), nI_clamp (by omega), Option.bind_some, up_upR]
          have m2 : μ2 1 3 = nI (G 0 0) := by rw [g3, if_neg (by omega)]; exact m1
          simp only [lt]
          rw [if_pos trivial]
          have t3 : upR (upR μ2 1 (upd (μ2 1) (0 + 16 + 20 * G 0 0) (nI a))) 1 (upd (upR μ2 1 (upd (μ2 1) (0 + 16 + 20 * G 0 0) (nI a)) 1) (0 + 16 + 20 * G 0 0 + 1) (nI b)) 1 3 = nI (G 0 0) := by
            rw [upR_app, if_pos rfl, pk_un (by omega), upR_app, if_pos rfl, pk_un (by omega)]; exact m2
          rw [t3, nI_add]
          generalize hν : upR (upR μ2 1 (upd (μ2 1) (0 + 16 + 20 * G 0 0) (nI a))) 1 (upd (upR μ2 1 (upd (μ2 1) (0 + 16 + 20 * G 0 0) (nI a)) 1) (0 + 16 + 20 * G 0 0 + 1) (nI b)) = ν
          have fin : upR ν 1 (upd (ν 1) 3 (nI (G 0 0 + 1))) 1 3 - nI 1 = nI (G 0 0) := by
            rw [upR_app, if_pos rfl, upd_app, if_pos rfl, nI_sub (by omega)]; rfl
          rw [fin]
          refine ⟨_, _, ζ', η', _, rfl, rfl, nst G a b, _, _, S1.chg' (by omega) (by omega) (wf_mono (wf_nst S.wf (by omega) (by omega) (by omega) e) (by omega) (by omega)) (cl_set (cl_set (cl_set S.cl (by decide)) (by decide)) (by decide)) (mo_nst S1.mo S.wf (by omega) (fun i => ?_)) ⟨fun p hp => ?_, fun j hj => ?_⟩⟩
          · rw [upR_app, if_pos rfl, upd_app]
            by_cases q : i = 3
            · rw [if_pos q, if_pos q]
            · rw [if_neg q, if_neg q, ← hν, upR_app, if_pos rfl, upd_app]
              by_cases q1 : i = 0 + 16 + 20 * G 0 0
              · rw [if_neg (by omega), if_pos q1, upR_app, if_pos rfl, upd_app, if_pos q1]
              · rw [if_neg q1]
                by_cases q2 : i = 0 + 16 + 20 * G 0 0 + 1
                · rw [if_pos q2, if_pos q2]
                · rw [if_neg q2, if_neg q2, upR_app, if_pos rfl, upd_app, if_neg q1, g3]
                  rfl
          · rw [upR_app, if_neg hp, ← hν, upR_app, if_neg hp, upR_app, if_neg hp]
            exact g2 p hp
          · rw [upR_app, if_pos rfl, pk_un (by omega), ← hν, upR_app, if_pos rfl, pk_un (by omega), upR_app, if_pos rfl, pk_un (by omega), g3, if_neg (by omega)]
    · rw [if_neg g, if_neg g]; exact S.no (by omega) (by omega) _
  · rw [if_neg h, if_neg h]; exact S.no (by omega) (by omega) _
