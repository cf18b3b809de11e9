/-! class and reference side by side: room, slip, close, set -/
theorem mo_room_up {s : Row} {b : Nat} {G : NB} (M : Mod s b G) {h : Nat} (h1 : h ≠ 0) (h6 : h < 6) (x : Nat) : Mod (upd s (b + 4 + h) (nI x)) b (setN G 1 h x) := by
  refine ⟨?_, fun h' h1 h2 => ?_, fun k' hk => ?_, fun k' c' hk hc' => ?_⟩
  · simp (disch := omega) only [pk_un]
    exact M.1
  · have m := M.2.1 h' h1 h2
    by_cases e : h' = h
    · subst e
      simp (disch := omega) only [pk_un, pk_us]
      simp only [setN_app]
      exact ⟨by simp, m.2⟩
    · simp (disch := omega) only [pk_un]
      simp only [setN_app, e, and_false, if_false]
      exact m
  · simp (disch := omega) only [pk_un]
    exact M.2.2.1 k' hk
  · simp (disch := omega) only [pk_un]
    exact M.2.2.2 k' c' hk hc'
theorem mo_rate_up {s : Row} {b : Nat} {G : NB} (M : Mod s b G) (x : Nat) : Mod (upd s b (nI x)) b (setN G 0 1 x) := by
  refine ⟨?_, fun h' h1 h2 => ?_, fun k' hk => ?_, fun k' c' hk hc' => ?_⟩
  · simp (disch := omega) only [pk_un, pk_us]
    exact ⟨rfl, M.1.2⟩
  · simp (disch := omega) only [pk_un]
    exact M.2.1 h' h1 h2
  · simp (disch := omega) only [pk_un]
    exact M.2.2.1 k' hk
  · simp (disch := omega) only [pk_un]
    exact M.2.2.2 k' c' hk hc'
theorem mo_last_up {s : Row} {b : Nat} {G : NB} (M : Mod s b G) (x : Nat) : Mod (upd s (b + 1) (nI x)) b (setN G 0 2 x) := by
  refine ⟨?_, fun h' h1 h2 => ?_, fun k' hk => ?_, fun k' c' hk hc' => ?_⟩
  · simp (disch := omega) only [pk_un, pk_us]
    exact ⟨M.1.1, rfl, M.1.2.2⟩
  · simp (disch := omega) only [pk_un]
    exact M.2.1 h' h1 h2
  · simp (disch := omega) only [pk_un]
    exact M.2.2.1 k' hk
  · simp (disch := omega) only [pk_un]
    exact M.2.2.2 k' c' hk hc'
theorem mo_w {σ : Blk} {i : Nat} {v : Int32} {b : Nat} {G : NB} (M : Mod (upd (σ 1) i v) b G) : Mod ((upR σ 1 (upd (σ 1) i v)) 1) b G := by
  rw [upR_app, if_pos rfl]; exact M
theorem up_upR (σ : Blk) (p i : Nat) (v : Int32) : up σ p i v = upR σ p (upd (σ p) i v) := by
  funext q j
  rw [up_app, upR_app]
  by_cases e : q = p
  · subst e
    rw [if_pos rfl, upd_app]
    by_cases f : j = i
    · rw [if_pos ⟨rfl, f⟩, if_pos f]
    · rw [if_neg (fun c => f c.2), if_neg f]
  · rw [if_neg (fun c => e c.1), if_neg e]
theorem wf_room {G : NB} {N : Nat} (Wf : WF N G) {h x : Nat} (h1 : 1 ≤ x) (h5 : x ≤ 500) (hx : G 2 h ≤ x) : WF N (setN G 1 h x) := by
  refine ⟨Wf.1, Wf.2.1, fun j j1 j6 => ?_, Wf.2.2.2.1, Wf.2.2.2.2.1, Wf.2.2.2.2.2.1, Wf.2.2.2.2.2.2.1, Wf.2.2.2.2.2.2.2⟩
  have w := Wf.2.2.1 j j1 j6
  have e : setN G 1 h x 2 j = G 2 j := by rw [setN_app, if_neg (by omega)]
  rw [e, setN_app]
  by_cases f : j = h
  · subst f; rw [if_pos ⟨rfl, rfl⟩]; exact ⟨h1, h5, hx⟩
  · rw [if_neg (fun c => f c.2)]; exact w
theorem wf_rate {G : NB} {N : Nat} (Wf : WF N G) {x : Nat} (h1 : 1 ≤ x) (h9 : x ≤ 99) : WF N (setN G 0 1 x) :=
  ⟨Wf.1, ⟨Wf.2.1.1, h1, h9, Wf.2.1.2.2.2⟩, Wf.2.2.1, Wf.2.2.2.1, Wf.2.2.2.2.1, Wf.2.2.2.2.2.1, Wf.2.2.2.2.2.2.1, Wf.2.2.2.2.2.2.2⟩
theorem wf_last {G : NB} {N : Nat} (Wf : WF N G) {x : Nat} (h1 : 1 ≤ x) (h9 : x ≤ 48) : WF N (setN G 0 2 x) :=
  ⟨Wf.1, ⟨Wf.2.1.1, Wf.2.1.2.1, Wf.2.1.2.2.1, h1, h9, Wf.2.1.2.2.2.2.2⟩, Wf.2.2.1, Wf.2.2.2.1, Wf.2.2.2.2.1, Wf.2.2.2.2.2.1, Wf.2.2.2.2.2.2.1, Wf.2.2.2.2.2.2.2⟩
theorem wf_slip {G : NB} {N : Nat} (Wf : WF N G) {i v : Nat} (hi : i < G 0 0 * 4) (h9 : v ≤ 9) (h1 : v ≠ 1) : WF N (setN (setN G 9 i 0) 8 i v) := by
  refine ⟨Wf.1, Wf.2.1, Wf.2.2.1, Wf.2.2.2.1, Wf.2.2.2.2.1, fun j hj => ?_, Wf.2.2.2.2.2.2.1, fun j j1 j2 => ?_⟩
  · have w := Wf.2.2.2.2.2.1 j hj
    by_cases f : j = i
    · subst f
      refine ⟨w.1, ?_, ?_, ?_, w.2.2.2.2⟩
      · simp [setN_app]; exact h9
      · simp [setN_app]; exact h1
      · simp [setN_app]
    · refine ⟨w.1, ?_, ?_, ?_, w.2.2.2.2⟩
      · simp [setN_app, f]; exact w.2.1
      · simp [setN_app, f]; exact w.2.2.1
      · simp [setN_app, f]; exact w.2.2.2.1
  · have j1' : G 0 0 * 4 ≤ j := j1
    have w := Wf.2.2.2.2.2.2.2 j j1' j2
    have f : ¬ j = i := by omega
    refine ⟨w.1, ?_, ?_, w.2.2.2⟩
    · simp [setN_app, f]; exact w.2.1
    · simp [setN_app, f]; exact w.2.2.1
theorem sim_room {N : Nat} {G : NB} {z : Nat} {H : Nat → NB} {hs : Int32} {n0 n1 : Blk} {ζ : Row} {η : Nat → Blk} {χ μ : Blk} (S : St N G z H hs n0 n1 ζ η χ μ) (hN : N + 600000 ≤ 536870912) (n2 : Blk) (δ : Row) (x1 x2 : Int32) : Sim (N + 500000) hs n1 χ (f_X5_room hs n0 n1 n2 ζ η δ χ x1 x2) (f_X6_room μ x1 x2) := by
  unfold f_X5_room f_X6_room
  simp only [lt]
  rw [in_hwr]
  by_cases h : f_X6_isHall x1 = true
  · rw [if_pos h, if_pos h]
    have h' : f_X6_in x1 (nI 1) (nI 5) = true := h
    obtain ⟨k, k1, k5, rfl⟩ := (in_nI (by decide) (by decide)).mp h'
    by_cases g : f_X6_in x2 1 500 = true
    · rw [if_pos g]
      obtain ⟨v, v1, hv, rfl⟩ := (in_nI (a := 1) (b := 500) (by decide) (by decide)).mp g
      have c := S.cl.2.2.1 k k1 (by omega)
      have c1 := S.cl.2.1 k k1 (by omega)
      have m := S.mo.2.1 k k1 (by omega)
      have w := S.wf.2.2.1 k k1 (by omega)
      simp only [Nat.zero_add] at m
      rw [if_neg (show ¬ nI v < 1 by rw [e1]; exact nI_nlt v1 (by omega)), if_pos (show nI v ≤ 500 from nI_le (b := 500) hv (by decide)), at_k (by omega) (by decide), Option.bind_some, c, show (10 : Int32) + nI k = nI (10 + k) by rw [e10, nI_add], show (4 : Int32) + nI k = nI (4 + k) by rw [e4, nI_add], ib_nI (by omega) (by decide), if_pos rfl, nI_clamp (by omega), m.2]
      by_cases q : G 2 k ≤ v
      · rw [if_pos (nI_le q (by omega)), if_pos (nI_le q (by omega))]
        obtain ⟨ζ', η', μ1, a1, a2, S1, p1⟩ := S.rec
        have m1 := S1.mo.2.1 k k1 (by omega)
        simp only [Nat.zero_add] at m1
        rw [a1, a2, Option.bind_some, Option.bind_some, at_k (by omega) (by decide), Option.bind_some, put_k (by omega) (by decide), Option.bind_some, ib_nI (by omega) (by decide), if_pos rfl, if_pos rfl, nI_clamp (by omega), m1.1, c1]
        refine ⟨_, _, ζ', η', _, rfl, rfl, _, _, _, S1.chg' (by omega) (by omega) (wf_mono (wf_room S.wf v1 hv q) (by omega) (by omega)) (cl_set S.cl (by decide)) (mo_w ?_) (Same.up (by omega) (by omega))⟩
        have := mo_room_up S1.mo (h := k) (by omega) (by omega) v
        simpa only [Nat.zero_add] using this
      · rw [if_neg (nI_ge (by omega) (by omega)), if_neg (nI_ge (by omega) (by omega))]
        exact S.no (by omega) (by omega) _
    · rw [if_neg g]
      rcases in_cases g with q | ⟨q1, q2⟩
      · rw [if_pos q]; exact S.no (by omega) (by omega) _
      · rw [if_neg q1, if_neg q2]; exact S.no (by omega) (by omega) _
  · rw [if_neg h, if_neg h]; exact S.no (by omega) (by omega) _
theorem sim_slip {N : Nat} {G : NB} {z : Nat} {H : Nat → NB} {hs : Int32} {n0 n1 : Blk} {ζ : Row} {η : Nat → Blk} {χ μ : Blk} (S : St N G z H hs n0 n1 ζ η χ μ) (hN : N + 600000 ≤ 536870912) (n2 : Blk) (δ : Row) (x1 x2 x3 : Int32) : Sim (N + 500000) hs n1 χ (f_X5_slip hs n0 n1 n2 ζ η δ χ x1 x2 x3) (f_X6_slip μ x1 x2 x3) := by
  unfold f_X5_slip f_X6_slip
  simp only [lt]
  rw [st_eq S.cl S.mo S.wf, in_ctr, in_slip]
  by_cases h : f_X6_isStile μ x1 = true
  · rw [if_pos h, if_pos h]
    obtain ⟨k, hk, rfl⟩ := (mo_stile S.mo S.wf _).mp h
    by_cases g : f_X6_in x2 0 3 = true
    · rw [if_pos g, if_pos g]
      obtain ⟨c, _, hc, rfl⟩ := (in_nI (a := 0) (b := 3) (by decide) (by decide)).mp g
      by_cases f : f_X6_isSlip x3 = true
      · rw [if_pos f, if_pos f]
        have hv : ∃ v : Nat, v ≤ 9 ∧ v ≠ 1 ∧ x3 = nI v := by
          by_cases f0 : x3 = 0
          · exact ⟨0, by decide, by decide, by rw [f0, e0]⟩
          · have f' : (if x3 = 0 then true else (if f_X6_in x3 2 9 = true then true else false)) = true := f
            rw [if_neg f0] at f'
            by_cases f2 : f_X6_in x3 2 9 = true
            · obtain ⟨v, v2, v9, rfl⟩ := (in_nI (a := 2) (b := 9) (by decide) (by decide)).mp f2
              exact ⟨v, v9, by omega, rfl⟩
            · rw [if_neg f2] at f'; cases f'
        obtain ⟨v, v9, v1, rfl⟩ := hv
        have hm := S.wf.2.1.1
        obtain ⟨ζ', η', μ1, a1, a2, S1, p1⟩ := S.rec
        obtain ⟨σ', d1, d2⟩ := cl_begin S.cl (i := k * 4 + c) (v := v) (w := 0) (by omega) (.inr rfl)
        have c8 := (S.cl.2.2.2.2 (k * 4 + c) (by omega)).2.1
        have m8 := (S1.mo.2.2.2 k c hk (by omega)).2.1
        rw [a1, a2, Option.bind_some, Option.bind_some, ci_k, at_k (by omega) (by decide), Option.bind_some, d1, Option.bind_some, c8]
        simp only [place0, e4, e1, e2, nI_mul, nI_add]
        simp (disch := omega) only [ib_nI, nI_clamp, if_true, m8]
        refine ⟨_, _, ζ', η', _, rfl, rfl, _, _, _, S1.chg' (by omega) (by omega) (wf_mono (wf_slip S.wf (i := k * 4 + c) (by omega) v9 v1) (by omega) (by omega)) d2 (mo_w ?_) ((Same.up (by omega) (by omega)).tr (Same.up (by omega) (by omega)))⟩
        rw [upR_app, if_pos rfl]
        have := mo_seen_up (mo_slip_up S1.mo (k := k) (c := c) (by omega) (by omega) v) (k := k) (c := c) (by omega) (by omega) 0
        rw [← e0] at this
        refine this.cong fun p j => ?_
        simp only [setN_app]
        by_cases q8 : p = 8
        · subst q8; simp
        · by_cases q9 : p = 9
          · subst q9; simp
          · simp [q8, q9]
      · rw [if_neg f, if_neg f]; exact S.no (by omega) (by omega) _
    · rw [if_neg g, if_neg g]; exact S.no (by omega) (by omega) _
  · rw [if_neg h, if_neg h]; exact S.no (by omega) (by omega) _
/-- closing, hour by hour, in both -/
theorem both_close {hs : Int32} {n1 n2 : Blk} {ζ : Row} {η : Nat → Blk} {χ : Blk} {N T : Nat} (hT : T ≤ 99) (hN : N + 600000 ≤ 536870912) : ∀ (d j n m : Nat) (σ μ : Blk) (δ : Row) (G : NB) (c : Int32) (p : Nat), j + d = T → d < n → d < m → WF (N + 5000 * j) G → Cls σ G → Mod (μ 1) 0 G → p ≤ 2376 → (c = 1 ∧ 0 < p) ∨ (c = 0 ∧ p = 0) →
    ∃ v σ' μ' δ' G', f_X5_close_L25 hs n1 n2 ζ η χ (nI T) n σ δ c (nI j) = some (v, σ', ζ, η, δ') ∧ f_X6_close_L21 (nI T) m μ (nI p) (nI j) = some (v, μ') ∧ Cls σ' G' ∧ Mod (μ' 1) 0 G' ∧ WF (N + 5000 * T) G' ∧ (∀ q, q ≠ 1 → q ≠ 3 → μ' q = μ q) ∧ ∀ i, 256 ≤ i → μ' 1 i = μ 1 i := by
  intro d
  induction d with
  | zero =>
    intro j n m σ μ δ G c p hj hn hm W C M hp hc
    obtain ⟨n, rfl⟩ : ∃ r, n = r + 1 := ⟨n - 1, by omega⟩
    obtain ⟨m, rfl⟩ : ∃ r, m = r + 1 := ⟨m - 1, by omega⟩
    have e : j = T := by omega
    subst e
    have mp := mo_ppl M (by decide)
    rw [← e0] at mp
    refine ⟨nI (ppl G), σ, μ, δ, G, ?_, ?_, C, M, W, fun _ _ _ => rfl, fun _ _ => rfl⟩
    · rw [f_X5_close_L25, if_pos (nI_le (by omega) (by omega)), cl_ppl C]; rfl
    · rw [f_X6_close_L21, if_pos (nI_le (by omega) (by omega)), mp]; rfl
  | succ d ih =>
    intro j n m σ μ δ G c p hj hn hm W C M hp hc
    obtain ⟨n, rfl⟩ : ∃ r, n = r + 1 := ⟨n - 1, by omega⟩
    obtain ⟨m, rfl⟩ : ∃ r, m = r + 1 := ⟨m - 1, by omega⟩
    rcases hc with ⟨rfl, hp0⟩ | ⟨rfl, rfl⟩
    · obtain ⟨δ1, σ1, c1, c2⟩ := cl_close (δ := δ) C W (by omega)
      obtain ⟨μ1, m1, m2, m3, m4⟩ := mo_close M W (by omega) (by decide)
      rw [← e0] at m1
      have W1 : WF (N + 5000 * (j + 1)) (clo G) := by
        have ee : N + 5000 * (j + 1) = N + 5000 * j + 5000 := by omega
        have e2' : N + 5000 * j + 5000 ≤ 536870912 := by omega
        rw [ee]
        generalize N + 5000 * j = Q at W e2'
        exact clo_wf W (Nat.le_refl _) e2'
      have cl := clp_le W
      have q : ¬ nI p ≤ (0 : Int32) := by rw [e0]; exact nI_ge hp0 (by omega)
      by_cases z : clp G = 0
      · obtain ⟨v, σ', μ', δ', G', g1, g2, g3, g4, g5, g6, g7⟩ := ih (j + 1) n m σ1 μ1 δ1 (clo G) 0 (clp G) (by omega) (by omega) (by omega) W1 c2 m2 cl (.inr ⟨rfl, z⟩)
        refine ⟨v, σ', μ', δ', G', ?_, ?_, g3, g4, g5, fun q h1 h3 => (g6 q h1 h3).trans (m3 q h1 h3), fun i hi => (g7 i hi).trans (m4 i (.inr (by omega)))⟩
        · rw [f_X5_close_L25, if_neg (nI_ge (by omega) (by omega)), if_neg (by decide), c1, Option.bind_some, if_pos (show nI (clp G) ≤ 0 by rw [z]; decide), nI_1]
          exact g1
        · rw [f_X6_close_L21, if_neg (nI_ge (by omega) (by omega)), if_neg q, m1, Option.bind_some, nI_1]
          exact g2
      · obtain ⟨v, σ', μ', δ', G', g1, g2, g3, g4, g5, g6, g7⟩ := ih (j + 1) n m σ1 μ1 δ1 (clo G) 1 (clp G) (by omega) (by omega) (by omega) W1 c2 m2 cl (.inl ⟨rfl, by omega⟩)
        have q' : ¬ nI (clp G) ≤ (0 : Int32) := by rw [e0]; exact nI_ge (by omega) (by omega)
        refine ⟨v, σ', μ', δ', G', ?_, ?_, g3, g4, g5, fun q h1 h3 => (g6 q h1 h3).trans (m3 q h1 h3), fun i hi => (g7 i hi).trans (m4 i (.inr (by omega)))⟩
        · rw [f_X5_close_L25, if_neg (nI_ge (by omega) (by omega)), if_neg (by decide), c1, Option.bind_some, if_neg q', nI_1]
          exact g1
        · rw [f_X6_close_L21, if_neg (nI_ge (by omega) (by omega)), if_neg q, m1, Option.bind_some, nI_1]
          exact g2
    · have mp := mo_ppl M (by decide)
      rw [← e0] at mp
      refine ⟨nI (ppl G), σ, μ, δ, G, ?_, ?_, C, M, wf_mono W (by omega) (by omega), fun _ _ _ => rfl, fun _ _ => rfl⟩
      · rw [f_X5_close_L25, if_neg (nI_ge (by omega) (by omega)), if_pos rfl, cl_ppl C]; rfl
      · rw [f_X6_close_L21, if_neg (nI_ge (by omega) (by omega)), if_pos (by decide), mp]; rfl
theorem sim_close {N : Nat} {G : NB} {z : Nat} {H : Nat → NB} {hs : Int32} {n0 n1 : Blk} {ζ : Row} {η : Nat → Blk} {χ μ : Blk} (S : St N G z H hs n0 n1 ζ η χ μ) (hN : N + 600000 ≤ 536870912) (n2 : Blk) (δ : Row) (x1 : Int32) : ∃ r n0' ζ' η' δ' μ', f_X5_close hs n0 n1 n2 ζ η δ χ x1 = some (r, n0', ζ', η', δ') ∧ f_X6_close μ x1 = some (r, μ') ∧ Inv (N + 500000) hs n0' n1 ζ' η' χ μ' := by
  unfold f_X5_close f_X6_close
  simp only [lt]
  rw [in_hrs]
  by_cases g : f_X6_in x1 1 99 = true
  · rw [if_pos g, if_pos g]
    rw [e1, e99] at g
    obtain ⟨T, h1, h9, rfl⟩ := (in_nI (by decide) (by decide)).mp g
    obtain ⟨ζ', η', μ1, a1, a2, S1, p1⟩ := S.rec
    obtain ⟨v, σ', μ', δ', G', g1, g2, g3, g4, g5, g6, g7⟩ := both_close (hs := hs) (n1 := n1) (n2 := n2) (ζ := ζ') (η := η') (χ := χ) (N := N) h9 hN T 0 FU FU n0 μ1 δ G 1 1 (by omega) (FU_big (by omega)) (FU_big (by omega)) S.wf S.cl S1.mo (by decide) (.inl ⟨rfl, by decide⟩)
    rw [← e0] at g1 g2
    rw [← e1] at g2
    rw [a1, a2, Option.bind_some, Option.bind_some, g1, g2]
    exact ⟨_, _, ζ', η', _, _, rfl, rfl, _, _, _, S1.chg (by omega) (by omega) (wf_mono g5 (by omega) (by omega)) g3 g4 (fun j _ => congrFun (g6 0 (by decide) (by decide)) j) (g6 2 (by decide) (by decide)) (fun j q _ => g7 j q) rfl rfl⟩
  · rw [if_neg g, if_neg g]
    exact ⟨_, _, _, _, _, _, rfl, rfl, _, _, _, S.mono (by omega) (by omega)⟩
theorem sim_set {N : Nat} {G : NB} {z : Nat} {H : Nat → NB} {hs : Int32} {n0 n1 : Blk} {ζ : Row} {η : Nat → Blk} {χ μ : Blk} (S : St N G z H hs n0 n1 ζ η χ μ) (hN : N + 600000 ≤ 536870912) (n2 : Blk) (δ : Row) (x1 x2 : Int32) : Sim (N + 500000) hs n1 χ (f_X5_set hs n0 n1 n2 ζ η δ χ x1 x2) (f_X6_set μ x1 x2) := by
  unfold f_X5_set f_X6_set
  simp only [lt]
  have z0 : ((0 : Int32) = 0) = True := eq_true rfl
  have z1 : ((1 : Int32) = 0) = False := eq_false (by decide)
  have z2 : ((1 : Int32) = 1) = True := eq_true rfl
  by_cases h0 : x1 = 0
  · subst h0
    simp only [z0, if_true]
    rw [if_pos (show f_X6_in 0 0 1 = true by decide)]
    by_cases g : f_X6_in x2 1 99 = true
    · rw [if_pos g]
      obtain ⟨v, v1, hv, rfl⟩ := (in_nI (a := 1) (b := 99) (by decide) (by decide)).mp g
      obtain ⟨ζ', η', μ1, a1, a2, S1, p1⟩ := S.rec
      have c := S.cl.1 1 (by decide)
      have m : μ1 1 0 = nI (G 0 1) := S1.mo.1.1
      rw [if_neg (show ¬ nI v < 1 by rw [e1]; exact nI_nlt v1 (by omega)), if_pos (show nI v ≤ 99 from nI_le (b := 99) hv (by decide)), a1, a2, Option.bind_some, Option.bind_some, if_pos (show ib 0 2048 = true by decide), if_pos (show ib 0 2048 = true by decide), show Int32.toNatClampNeg 0 = 0 by decide, m, c, up_upR]
      exact ⟨_, _, ζ', η', _, rfl, rfl, _, _, _, S1.chg' (by omega) (by omega) (wf_mono (wf_rate S.wf v1 hv) (by omega) (by omega)) (cl_set S.cl (by decide)) (mo_w (mo_rate_up S1.mo v)) (Same.up (by omega) (by omega))⟩
    · rw [if_neg g]
      rcases in_cases g with q | ⟨q1, q2⟩
      · rw [if_pos q]; exact S.no (by omega) (by omega) _
      · rw [if_neg q1, if_neg q2]; exact S.no (by omega) (by omega) _
  · by_cases h1 : x1 = 1
    · subst h1
      simp only [z1, z2, if_true, if_false]
      rw [if_pos (show f_X6_in 1 0 1 = true by decide)]
      by_cases g : f_X6_in x2 1 48 = true
      · rw [if_pos g]
        obtain ⟨v, v1, hv, rfl⟩ := (in_nI (a := 1) (b := 48) (by decide) (by decide)).mp g
        obtain ⟨ζ', η', μ1, a1, a2, S1, p1⟩ := S.rec
        have c := S.cl.1 2 (by decide)
        have m : μ1 1 1 = nI (G 0 2) := S1.mo.1.2.1
        rw [if_neg (show ¬ nI v < 1 by rw [e1]; exact nI_nlt v1 (by omega)), if_pos (show nI v ≤ 48 from nI_le (b := 48) hv (by decide)), a1, a2, Option.bind_some, Option.bind_some, if_pos (show ib 1 2048 = true by decide), if_pos (show ib 1 2048 = true by decide), show Int32.toNatClampNeg 1 = 1 by decide, m, c, up_upR]
        exact ⟨_, _, ζ', η', _, rfl, rfl, _, _, _, S1.chg' (by omega) (by omega) (wf_mono (wf_last S.wf v1 hv) (by omega) (by omega)) (cl_set S.cl (by decide)) (mo_w (mo_last_up S1.mo v)) (Same.up (by omega) (by omega))⟩
      · rw [if_neg g]
        rcases in_cases g with q | ⟨q1, q2⟩
        · rw [if_pos q]; exact S.no (by omega) (by omega) _
        · rw [if_neg q1, if_neg q2]; exact S.no (by omega) (by omega) _
    · have n3 : ¬ f_X6_in x1 0 1 = true := by
        intro c
        obtain ⟨j, _, j1, rfl⟩ := (in_nI (a := 0) (b := 1) (by decide) (by decide)).mp c
        have : j = 0 ∨ j = 1 := by omega
        rcases this with rfl | rfl
        · exact h0 rfl
        · exact h1 rfl
      rw [if_neg h0, if_neg h1, if_neg n3]
      exact S.no (by omega) (by omega) _
