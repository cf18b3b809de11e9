/-! the class's actions over the picture -/
theorem up_upR (σ : Blk) (p i : Nat) (v : Int32) : up σ p i v = upR σ p (upd (σ p) i v) := by
  funext q j
  rw [up_app, upR_app]
  by_cases e : q = p
  · subst e
    rw [if_pos rfl, upd_app]
    by_cases f : j = i
    · rw [if_pos ⟨rfl, f⟩, if_pos f]
    · rw [if_neg (fun c => f c.2), if_neg f]
  · rw [if_neg (fun c => e c.1), if_neg e]
theorem ds_le {a b N : Nat} (ha : a ≤ N) (hb : b ≤ N) : ds a b ≤ N := by unfold ds; omega
theorem k_open {N : Nat} {G : NB} {z : Nat} {H : Nat → NB} {P : Option NB} {hs : Int32} {n0 n1 : Blk} {ζ : Row} {η : Nat → Blk} (S : St N G z H P hs n0 n1 ζ η) (hN : N + 600000 ≤ 536870912) (n2 : Blk) (δ : Row) (χ : Blk) (x1 x2 : Int32) : Act N G z H P hs n0 n1 ζ η (fun _ _ => True) (f_X5_open hs n0 n1 n2 ζ η δ χ x1 x2) := by
  unfold f_X5_open
  simp only [lt]
  by_cases h : f_X4_hasStile n0 x1 = true
  · rw [if_pos h]
    obtain ⟨k, hk, rfl⟩ := (cl_has S.cl S.wf _).mp h
    by_cases g : inR x2 0 3 = true
    · obtain ⟨v, _, hv, rfl⟩ := (in_nI (a := 0) (b := 3) (by decide) (by decide)).mp g
      have hm := S.wf.2.1.1
      obtain ⟨ζ', η', a1, S1⟩ := S.rec
      have c := (S.cl.2.2.2.1 k (by omega)).2.2.1
      have w := (S.wf.2.2.2.1 k (by omega)).2.2.1
      rw [if_neg (nI_pos (by omega)), if_pos (by rw [e3]; exact nI_le hv (by decide)), a1, Option.bind_some, at_k (by omega) (by decide), Option.bind_some, put_k (by omega) (by decide), Option.bind_some, c]
      exact Act.ok rfl (by omega) trivial (S1.chg (by omega) (by omega) (wf_mono (wf_set5 S.wf hk hv) (by omega) (by omega)) (cl_set S.cl (by decide)))
    · rcases in_cases g with q | ⟨q1, q2⟩
      · rw [if_pos q]; exact Act.no (by decide)
      · rw [if_neg q1, if_neg q2]; exact Act.no (by decide)
  · rw [if_neg h]; exact Act.no (by decide)
theorem why_le (G : NB) (k : Nat) (ff : Bool) (n : Nat) : why G k ff n ≤ 4 := by
  unfold why
  by_cases a : 0 < G 6 k
  · rw [if_pos a]; omega
  · rw [if_neg a]
    split
    · omega
    · split
      · omega
      · split <;> omega
theorem k_wrong {N : Nat} {G : NB} {z : Nat} {H : Nat → NB} {P : Option NB} {hs : Int32} {n0 n1 : Blk} {ζ : Row} {η : Nat → Blk} (S : St N G z H P hs n0 n1 ζ η) (n2 : Blk) (δ : Row) (χ : Blk) (x1 : Int32) (ff : Bool) (x3 : Int32) : ∃ w, f_X5_passError hs n0 n1 n2 ζ η δ χ x1 ff x3 = some w ∧ ((w = 0 ∧ ∃ k n : Nat, k < G 0 0 ∧ 1 ≤ n ∧ n ≤ 99 ∧ x1 = nI k ∧ x3 = nI n ∧ why G k ff n = 0) ∨ (¬ w = 0 ∧ w < 0)) := by
  unfold f_X5_passError
  simp only [lt]
  rw [in_ppl]
  by_cases h : f_X4_hasStile n0 x1 = true
  · rw [if_pos h]
    obtain ⟨k, hk, rfl⟩ := (cl_has S.cl S.wf _).mp h
    by_cases g : inR x3 1 99 = true
    · rw [if_pos g]
      rw [e1, e99] at g
      obtain ⟨n, h1, h9, rfl⟩ := (in_nI (by decide) (by decide)).mp g
      have hm := S.wf.2.1.1
      rw [cl_why S.cl S.wf (by omega) h9, Option.bind_some]
      have w4 := why_le G k ff n
      have w5 : why G k ff n = 0 ∨ why G k ff n = 1 ∨ why G k ff n = 2 ∨ why G k ff n = 3 ∨ why G k ff n = 4 := by omega
      rcases w5 with q | q | q | q | q
      · rw [q]
        exact ⟨0, by rw [if_pos (by decide)], .inl ⟨rfl, k, n, hk, h1, h9, rfl, rfl, q⟩⟩
      · rw [q]
        exact ⟨_, by rw [if_neg (by decide)], .inr (by decide)⟩
      · rw [q]
        exact ⟨_, by rw [if_neg (by decide)], .inr (by decide)⟩
      · rw [q]
        exact ⟨_, by rw [if_neg (by decide)], .inr (by decide)⟩
      · rw [q]
        exact ⟨_, by rw [if_neg (by decide)], .inr (by decide)⟩
    · rw [if_neg g]
      exact ⟨_, rfl, .inr (by decide)⟩
  · rw [if_neg h]
    exact ⟨_, rfl, .inr (by decide)⟩
theorem pas_00 (G : NB) (k : Nat) (ff : Bool) (n : Nat) : pas G k ff n 0 0 = G 0 0 := by simp [pas, see, setN_app, mvI_app, mvO_app]
theorem k_pass {N : Nat} {G : NB} {z : Nat} {H : Nat → NB} {P : Option NB} {hs : Int32} {n0 n1 : Blk} {ζ : Row} {η : Nat → Blk} (S : St N G z H P hs n0 n1 ζ η) (hN : N + 600000 ≤ 536870912) (n2 : Blk) (δ : Row) (χ : Blk) (x1 : Int32) (ff : Bool) (x3 : Int32) : Act N G z H P hs n0 n1 ζ η (fun r G' => ∃ k : Nat, k < G' 0 0 ∧ x1 = nI k ∧ r = nI (gap G' k)) (f_X5_pass hs n0 n1 n2 ζ η δ χ x1 ff x3) := by
  obtain ⟨w, a, h⟩ := k_wrong S n2 δ χ x1 ff x3
  unfold f_X5_pass
  rw [a, Option.bind_some]
  rcases h with ⟨rfl, k, n, hk, h1, h9, rfl, rfl, hw⟩ | ⟨q1, q2⟩
  · have hm := S.wf.2.1.1
    obtain ⟨ζ', η', a1, S1⟩ := S.rec
    obtain ⟨σ', c1, c2⟩ := cl_pas S.cl S.wf (by omega) hk h9 (can_why hw)
    have W := wf_pas S.wf hk (can_why hw) (M := N + 500000) (by omega) (by omega)
    have gl := gap_le W (k := k) (by omega)
    rw [if_pos rfl, a1, Option.bind_some, c1, Option.bind_some, cl_gap c2 W (by omega)]
    exact Act.ok rfl (by omega) ⟨k, by rw [pas_00]; exact hk, rfl, rfl⟩ (S1.chg (by omega) (by omega) W c2)
  · rw [if_neg q1]
    exact Act.no q2
theorem k_repair {N : Nat} {G : NB} {z : Nat} {H : Nat → NB} {P : Option NB} {hs : Int32} {n0 n1 : Blk} {ζ : Row} {η : Nat → Blk} (S : St N G z H P hs n0 n1 ζ η) (hN : N + 600000 ≤ 536870912) (n2 : Blk) (δ : Row) (χ : Blk) (x1 : Int32) : Act N G z H P hs n0 n1 ζ η (fun _ _ => True) (f_X5_repair hs n0 n1 n2 ζ η δ χ x1) := by
  unfold f_X5_repair f_X5_repairError
  simp only [lt]
  by_cases h : f_X4_hasStile n0 x1 = true
  · rw [if_pos h]
    obtain ⟨k, hk, rfl⟩ := (cl_has S.cl S.wf _).mp h
    have hm := S.wf.2.1.1
    have w := (S.wf.2.2.2.1 k (by omega)).2.2.2
    have c := (S.cl.2.2.2.1 k (by omega)).2.2.2
    rw [at_k (by omega) (by decide), Option.bind_some, c]
    by_cases g : G 6 k = 0
    · rw [g, if_pos (by decide), Option.bind_some, if_pos rfl]
      obtain ⟨ζ', η', a1, S1⟩ := S.rec
      have c2 := S.cl.1 2 (by decide)
      have c3 := S.cl.1 3 (by decide)
      have w2 := S.wf.2.1
      have wn := S.wf.1
      rw [a1, Option.bind_some]
      unfold f_X4_beginRepair
      rw [put_k (by omega) (by decide), Option.bind_some]
      simp only [lt]
      rw [Option.bind_some, at_k (by omega) (by decide), Option.bind_some, c2]
      have C' := cl_set S.cl (p := 6) (k := k) (v := G 0 2) (by decide)
      refine Act.ok (w := G 0 3 + G 0 2) ?_ (by omega) trivial (S1.chg (by omega) (by omega) (wf_mono (wf_set6 S.wf hk w2.2.2.2.2.1) (by omega) (by omega)) C')
      rw [upR_app, if_neg (by decide), c3, upR_app, if_pos rfl, upd_app, if_pos rfl, nI_add]
    · have q : ¬ nI (G 6 k) ≤ 0 := by
        rw [e0]; exact nI_ge (by omega) (by omega)
      rw [if_neg q, Option.bind_some, if_neg (by decide)]
      exact Act.no (by decide)
  · rw [if_neg h, Option.bind_some, if_neg (by decide)]; exact Act.no (by decide)
theorem k_hr {N T : Nat} (hT : T ≤ 99) (hN : N + 200 ≤ 536870912) : ∀ (d j n : Nat) (σ : Blk) (G : NB) (acc : Nat), j + d = T → d < n → WF (N + j) G → Cls σ G → acc ≤ 12 * j →
    ∃ σ' G' acc', f_X4_letHoursPass_L4 (nI T) n σ (nI acc) (nI j) = some (nI acc', σ') ∧ Cls σ' G' ∧ WF (N + T) G' ∧ acc' ≤ 12 * T := by
  intro d
  induction d with
  | zero =>
    intro j n σ G acc hj hn W C ha
    obtain ⟨n, rfl⟩ : ∃ r, n = r + 1 := ⟨n - 1, by omega⟩
    have e : j = T := by omega
    subst e
    exact ⟨σ, G, acc, by rw [f_X4_letHoursPass_L4, if_pos (nI_le (by omega) (by omega))], C, W, ha⟩
  | succ d ih =>
    intro j n σ G acc hj hn W C ha
    obtain ⟨n, rfl⟩ : ∃ r, n = r + 1 := ⟨n - 1, by omega⟩
    obtain ⟨σ1, c1, c2⟩ := cl_hour C W
    have hm := W.2.1.1
    have ol := ovr_le G (G 0 0)
    obtain ⟨σ', G', acc', g1, g3, g5, g6⟩ := ih (j + 1) n σ1 (hr G) (acc + ovr G (G 0 0)) (by omega) (by omega) (wf_hr W (by omega) (by omega)) c2 (by omega)
    refine ⟨σ', G', acc', ?_, g3, g5, g6⟩
    rw [f_X4_letHoursPass_L4, if_neg (nI_ge (by omega) (by omega)), c1, Option.bind_some, nI_1, nI_add]
    exact g1
theorem k_hours {N : Nat} {G : NB} {z : Nat} {H : Nat → NB} {P : Option NB} {hs : Int32} {n0 n1 : Blk} {ζ : Row} {η : Nat → Blk} (S : St N G z H P hs n0 n1 ζ η) (hN : N + 600000 ≤ 536870912) (n2 : Blk) (δ : Row) (χ : Blk) (x1 : Int32) : Act N G z H P hs n0 n1 ζ η (fun _ _ => True) (f_X5_hours hs n0 n1 n2 ζ η δ χ x1) := by
  unfold f_X5_hours
  simp only [lt]
  rw [in_hrs]
  by_cases g : inR x1 1 99 = true
  · rw [if_pos g]
    rw [e1, e99] at g
    obtain ⟨T, h1, h9, rfl⟩ := (in_nI (by decide) (by decide)).mp g
    obtain ⟨ζ', η', a1, S1⟩ := S.rec
    obtain ⟨σ', G', acc', g1, g3, g5, g6⟩ := k_hr (N := N) h9 (by omega) T 0 FU n0 G 0 (by omega) (FU_big (by omega)) S.wf S.cl (by omega)
    rw [← e0] at g1
    unfold f_X4_letHoursPass
    rw [a1, Option.bind_some, g1]
    exact Act.ok rfl (by omega) trivial (S1.chg (by omega) (by omega) (wf_mono g5 (by omega) (by omega)) g3)
  · rw [if_neg g]; exact Act.no (by decide)
theorem k_room {N : Nat} {G : NB} {z : Nat} {H : Nat → NB} {P : Option NB} {hs : Int32} {n0 n1 : Blk} {ζ : Row} {η : Nat → Blk} (S : St N G z H P hs n0 n1 ζ η) (hN : N + 600000 ≤ 536870912) (n2 : Blk) (δ : Row) (χ : Blk) (x1 x2 : Int32) : Act N G z H P hs n0 n1 ζ η (fun _ _ => True) (f_X5_room hs n0 n1 n2 ζ η δ χ x1 x2) := by
  unfold f_X5_room
  simp only [lt]
  by_cases h : f_X5_isHallWithRoom x1 = true
  · rw [if_pos h]
    obtain ⟨k, k1, k5, rfl⟩ := (in_hwr _).mp h
    by_cases g : inR x2 1 500 = true
    · obtain ⟨v, v1, hv, rfl⟩ := (in_nI (a := 1) (b := 500) (by decide) (by decide)).mp g
      have c := S.cl.2.2.1 k k1 (by omega)
      have c1 := S.cl.2.1 k k1 (by omega)
      have w := S.wf.2.2.1 k k1 (by omega)
      rw [if_neg (show ¬ nI v < 1 by rw [e1]; exact nI_nlt v1 (by omega)), if_pos (show nI v ≤ 500 from nI_le (b := 500) hv (by decide)), at_k (by omega) (by decide), Option.bind_some, c]
      by_cases q : G 2 k ≤ v
      · rw [if_pos (nI_le q (by omega))]
        obtain ⟨ζ', η', a1, S1⟩ := S.rec
        rw [a1, Option.bind_some, at_k (by omega) (by decide), Option.bind_some, put_k (by omega) (by decide), Option.bind_some, c1]
        exact Act.ok rfl (by omega) trivial (S1.chg (by omega) (by omega) (wf_mono (wf_room S.wf v1 hv q) (by omega) (by omega)) (cl_set S.cl (by decide)))
      · rw [if_neg (nI_ge (by omega) (by omega))]
        exact Act.no (by decide)
    · rcases in_cases g with q | ⟨q1, q2⟩
      · rw [if_pos q]; exact Act.no (by decide)
      · rw [if_neg q1, if_neg q2]; exact Act.no (by decide)
  · rw [if_neg h]; exact Act.no (by decide)
theorem k_slip {N : Nat} {G : NB} {z : Nat} {H : Nat → NB} {P : Option NB} {hs : Int32} {n0 n1 : Blk} {ζ : Row} {η : Nat → Blk} (S : St N G z H P hs n0 n1 ζ η) (hN : N + 600000 ≤ 536870912) (n2 : Blk) (δ : Row) (χ : Blk) (x1 x2 x3 : Int32) : Act N G z H P hs n0 n1 ζ η (fun _ _ => True) (f_X5_slip hs n0 n1 n2 ζ η δ χ x1 x2 x3) := by
  unfold f_X5_slip
  simp only [lt]
  rw [in_ctr]
  by_cases h : f_X4_hasStile n0 x1 = true
  · rw [if_pos h]
    obtain ⟨k, hk, rfl⟩ := (cl_has S.cl S.wf _).mp h
    by_cases g : inR x2 0 3 = true
    · rw [if_pos g]
      obtain ⟨c, _, hc, rfl⟩ := (in_nI (a := 0) (b := 3) (by decide) (by decide)).mp g
      by_cases f : f_X5_isSlip x3 = true
      · rw [if_pos f]
        obtain ⟨v, v9, v1, rfl⟩ := in_slip f
        have hm := S.wf.2.1.1
        obtain ⟨ζ', η', a1, S1⟩ := S.rec
        obtain ⟨σ', d1, d2⟩ := cl_begin S.cl (i := k * 4 + c) (v := v) (w := 0) (by omega) (.inr rfl)
        have c8 := (S.cl.2.2.2.2 (k * 4 + c) (by omega)).2.1
        have w8 := (S.wf.2.2.2.2.2.1 (k * 4 + c) (by omega)).2.1
        rw [a1, Option.bind_some, ci_k, at_k (by omega) (by decide), Option.bind_some, d1, Option.bind_some, c8]
        exact Act.ok rfl (by omega) trivial (S1.chg (by omega) (by omega) (wf_mono (wf_slip S.wf (i := k * 4 + c) (by omega) v9 v1) (by omega) (by omega)) d2)
      · rw [if_neg f]; exact Act.no (by decide)
    · rw [if_neg g]; exact Act.no (by decide)
  · rw [if_neg h]; exact Act.no (by decide)
theorem k_closing {hs : Int32} {n1 n2 : Blk} {ζ : Row} {η : Nat → Blk} {χ : Blk} {N T : Nat} (hT : T ≤ 99) (hN : N + 600000 ≤ 536870912) : ∀ (d j n : Nat) (σ : Blk) (δ : Row) (G : NB) (c : Int32), j + d = T → d < n → WF (N + 5000 * j) G → Cls σ G → c = 1 ∨ c = 0 →
    ∃ σ' δ' G', f_X5_close_L25 hs n1 n2 ζ η χ (nI T) n σ δ c (nI j) = some (nI (ppl G'), σ', ζ, η, δ') ∧ Cls σ' G' ∧ WF (N + 5000 * T) G' := by
  intro d
  induction d with
  | zero =>
    intro j n σ δ G c hj hn W C hc
    obtain ⟨n, rfl⟩ : ∃ r, n = r + 1 := ⟨n - 1, by omega⟩
    have e : j = T := by omega
    subst e
    refine ⟨σ, δ, G, ?_, C, W⟩
    rw [f_X5_close_L25, if_pos (nI_le (by omega) (by omega)), cl_ppl C]; rfl
  | succ d ih =>
    intro j n σ δ G c hj hn W C hc
    obtain ⟨n, rfl⟩ : ∃ r, n = r + 1 := ⟨n - 1, by omega⟩
    rcases hc with rfl | rfl
    · obtain ⟨δ1, σ1, c1, c2⟩ := cl_close (δ := δ) C W (by omega)
      have W1 : WF (N + 5000 * (j + 1)) (clo G) := by
        have ee : N + 5000 * (j + 1) = N + 5000 * j + 5000 := by omega
        have e2' : N + 5000 * j + 5000 ≤ 536870912 := by omega
        rw [ee]
        generalize N + 5000 * j = Q at W e2'
        exact clo_wf W (Nat.le_refl _) e2'
      have cl := clp_le W
      by_cases z : clp G = 0
      · obtain ⟨σ', δ', G', g1, g3, g5⟩ := ih (j + 1) n σ1 δ1 (clo G) 0 (by omega) (by omega) W1 c2 (.inr rfl)
        refine ⟨σ', δ', G', ?_, g3, g5⟩
        rw [f_X5_close_L25, if_neg (nI_ge (by omega) (by omega)), if_neg (by decide), c1, Option.bind_some, if_pos (show nI (clp G) ≤ 0 by rw [z]; decide), nI_1]
        exact g1
      · obtain ⟨σ', δ', G', g1, g3, g5⟩ := ih (j + 1) n σ1 δ1 (clo G) 1 (by omega) (by omega) W1 c2 (.inl rfl)
        have q' : ¬ nI (clp G) ≤ (0 : Int32) := by rw [e0]; exact nI_ge (by omega) (by omega)
        refine ⟨σ', δ', G', ?_, g3, g5⟩
        rw [f_X5_close_L25, if_neg (nI_ge (by omega) (by omega)), if_neg (by decide), c1, Option.bind_some, if_neg q', nI_1]
        exact g1
    · refine ⟨σ, δ, G, ?_, C, wf_mono W (by omega) (by omega)⟩
      rw [f_X5_close_L25, if_neg (nI_ge (by omega) (by omega)), if_pos rfl, cl_ppl C]; rfl
theorem k_close {N : Nat} {G : NB} {z : Nat} {H : Nat → NB} {P : Option NB} {hs : Int32} {n0 n1 : Blk} {ζ : Row} {η : Nat → Blk} (S : St N G z H P hs n0 n1 ζ η) (hN : N + 600000 ≤ 536870912) (n2 : Blk) (δ : Row) (χ : Blk) (x1 : Int32) : ∃ r n0' ζ' η' δ', f_X5_close hs n0 n1 n2 ζ η δ χ x1 = some (r, n0', ζ', η', δ') ∧ Don N G z H P hs n0 n1 ζ η (fun _ _ => True) r n0' ζ' η' := by
  unfold f_X5_close
  simp only [lt]
  rw [in_hrs]
  by_cases g : inR x1 1 99 = true
  · rw [if_pos g]
    rw [e1, e99] at g
    obtain ⟨T, h1, h9, rfl⟩ := (in_nI (by decide) (by decide)).mp g
    obtain ⟨ζ', η', a1, S1⟩ := S.rec
    obtain ⟨σ', δ', G', g1, g3, g5⟩ := k_closing (hs := hs) (n1 := n1) (n2 := n2) (ζ := ζ') (η := η') (χ := χ) (N := N) h9 hN T 0 FU n0 δ G 1 (by omega) (FU_big (by omega)) S.wf S.cl (.inl rfl)
    have pl := ppl_le g5
    rw [← e0] at g1
    rw [a1, Option.bind_some, g1]
    exact ⟨_, _, ζ', η', _, rfl, .inr ⟨nI_pos (by omega), G', trivial, S1.chg (by omega) (by omega) (wf_mono g5 (by omega) (by omega)) g3⟩⟩
  · rw [if_neg g]
    exact ⟨_, _, _, _, _, rfl, .inl ⟨by decide, rfl, rfl, rfl⟩⟩
theorem k_set {N : Nat} {G : NB} {z : Nat} {H : Nat → NB} {P : Option NB} {hs : Int32} {n0 n1 : Blk} {ζ : Row} {η : Nat → Blk} (S : St N G z H P hs n0 n1 ζ η) (hN : N + 600000 ≤ 536870912) (n2 : Blk) (δ : Row) (χ : Blk) (x1 x2 : Int32) : Act N G z H P hs n0 n1 ζ η (fun _ _ => True) (f_X5_set hs n0 n1 n2 ζ η δ χ x1 x2) := by
  unfold f_X5_set
  simp only [lt]
  have z0 : ((0 : Int32) = 0) = True := eq_true rfl
  have z1 : ((1 : Int32) = 0) = False := eq_false (by decide)
  have z2 : ((1 : Int32) = 1) = True := eq_true rfl
  have w2 := S.wf.2.1
  by_cases h0 : x1 = 0
  · subst h0
    simp only [z0, if_true]
    by_cases g : inR x2 1 99 = true
    · obtain ⟨v, v1, hv, rfl⟩ := (in_nI (a := 1) (b := 99) (by decide) (by decide)).mp g
      obtain ⟨ζ', η', a1, S1⟩ := S.rec
      have c := S.cl.1 1 (by decide)
      rw [if_neg (show ¬ nI v < 1 by rw [e1]; exact nI_nlt v1 (by omega)), if_pos (show nI v ≤ 99 from nI_le (b := 99) hv (by decide)), a1, Option.bind_some, c, up_upR]
      exact Act.ok rfl (by omega) trivial (S1.chg (by omega) (by omega) (wf_mono (wf_rate S.wf v1 hv) (by omega) (by omega)) (cl_set S.cl (by decide)))
    · rcases in_cases g with q | ⟨q1, q2⟩
      · rw [if_pos q]; exact Act.no (by decide)
      · rw [if_neg q1, if_neg q2]; exact Act.no (by decide)
  · by_cases h1 : x1 = 1
    · subst h1
      simp only [z1, z2, if_true, if_false]
      by_cases g : inR x2 1 48 = true
      · obtain ⟨v, v1, hv, rfl⟩ := (in_nI (a := 1) (b := 48) (by decide) (by decide)).mp g
        obtain ⟨ζ', η', a1, S1⟩ := S.rec
        have c := S.cl.1 2 (by decide)
        rw [if_neg (show ¬ nI v < 1 by rw [e1]; exact nI_nlt v1 (by omega)), if_pos (show nI v ≤ 48 from nI_le (b := 48) hv (by decide)), a1, Option.bind_some, c, up_upR]
        exact Act.ok rfl (by omega) trivial (S1.chg (by omega) (by omega) (wf_mono (wf_last S.wf v1 hv) (by omega) (by omega)) (cl_set S.cl (by decide)))
      · rcases in_cases g with q | ⟨q1, q2⟩
        · rw [if_pos q]; exact Act.no (by decide)
        · rw [if_neg q1, if_neg q2]; exact Act.no (by decide)
    · rw [if_neg h0, if_neg h1]
      exact Act.no (by decide)
theorem agr_00 (G : NB) (k : Nat) : agr G k 0 0 = G 0 0 := by simp [agr, ag2, setN_app]
theorem agr_gap (G : NB) (k : Nat) : gap (agr G k) k = 0 := by
  have a0 : agr G k 7 (k * 4 + 0) = max (G 7 (k * 4 + 0)) (G 7 (k * 4 + 3)) := by
    simp [agr, ag2, setN_app]
  have a1 : agr G k 7 (k * 4 + 1) = max (G 7 (k * 4 + 1)) (G 7 (k * 4 + 2)) := by
    simp [agr, ag2, setN_app]
  have a2 : agr G k 7 (k * 4 + 2) = max (G 7 (k * 4 + 1)) (G 7 (k * 4 + 2)) := by
    simp [agr, ag2, setN_app]
  have a3 : agr G k 7 (k * 4 + 3) = max (G 7 (k * 4 + 0)) (G 7 (k * 4 + 3)) := by
    simp [agr, ag2, setN_app]
  unfold gap
  rw [a0, a1, a2, a3]
  unfold ds
  omega
theorem k_audit {N : Nat} {G : NB} {z : Nat} {H : Nat → NB} {P : Option NB} {hs : Int32} {n0 n1 : Blk} {ζ : Row} {η : Nat → Blk} (S : St N G z H P hs n0 n1 ζ η) (hN : N + 600000 ≤ 536870912) (n2 : Blk) (δ : Row) (χ : Blk) (x1 : Int32) : Act N G z H P hs n0 n1 ζ η (fun r G' => ∃ k : Nat, k < G 0 0 ∧ x1 = nI k ∧ r = nI (gap G k) ∧ G' 0 0 = G 0 0 ∧ gap G' k = 0) (f_X5_audit hs n0 n1 n2 ζ η δ χ x1) := by
  unfold f_X5_audit
  simp only [lt]
  by_cases h : f_X4_hasStile n0 x1 = true
  · rw [if_pos h]
    obtain ⟨k, hk, rfl⟩ := (cl_has S.cl S.wf _).mp h
    have hm := S.wf.2.1.1
    obtain ⟨ζ', η', a1, S1⟩ := S.rec
    obtain ⟨σ', c1, c2⟩ := cl_agr S.cl S.wf hk
    have gl := gap_le S.wf (k := k) (by omega)
    rw [a1, Option.bind_some, cl_gap S.cl S.wf (by omega), Option.bind_some, c1]
    exact Act.ok rfl (by omega) ⟨k, hk, rfl, rfl, agr_00 G k, agr_gap G k⟩ (S1.chg (by omega) (by omega) (wf_mono (wf_agr S.wf hk) (by omega) (by omega)) c2)
  · rw [if_neg h]; exact Act.no (by decide)
theorem k_stile {N : Nat} {G : NB} {z : Nat} {H : Nat → NB} {P : Option NB} {hs : Int32} {n0 n1 : Blk} {ζ : Row} {η : Nat → Blk} (S : St N G z H P hs n0 n1 ζ η) (hN : N + 600000 ≤ 536870912) (n2 : Blk) (δ : Row) (χ : Blk) (x1 x2 : Int32) : Act N G z H P hs n0 n1 ζ η (fun _ _ => True) (f_X5_stile hs n0 n1 n2 ζ η δ χ x1 x2) := by
  unfold f_X5_stile
  simp only [lt]
  rw [in_hall, in_hall]
  by_cases h : inR x1 0 5 = true
  · rw [if_pos h]
    by_cases g : inR x2 0 5 = true
    · rw [if_pos g]
      obtain ⟨a, _, ha, rfl⟩ := (in_nI (a := 0) (b := 5) (by decide) (by decide)).mp h
      obtain ⟨b, _, hb, rfl⟩ := (in_nI (a := 0) (b := 5) (by decide) (by decide)).mp g
      by_cases e : a = b
      · rw [if_pos (by rw [e])]; exact Act.no (by decide)
      · have e' : ¬ nI a = nI b := fun c => e ((nI_eq (by omega) (by omega)).mp c)
        have hm := S.wf.2.1.1
        have c0 := S.cl.1 0 (by decide)
        rw [if_neg e', c0]
        by_cases f : G 0 0 = 12
        · rw [f, if_neg (by decide)]; exact Act.no (by decide)
        · obtain ⟨ζ', η', a1, S1⟩ := S.rec
          rw [if_pos (show nI (G 0 0) < 12 by rw [e12]; exact nI_lt (by omega) (by decide)), a1, Option.bind_some]
          unfold f_X4_putUp
          rw [c0, put_k (by omega) (by decide), Option.bind_some]
          simp only [lt]
          rw [put_k (by omega) (by decide), Option.bind_some, e1, nI_add, up_upR]
          have C' := cl_set (cl_set (cl_set S.cl (p := 3) (k := G 0 0) (v := a) (by decide)) (p := 4) (k := G 0 0) (v := b) (by decide)) (p := 0) (k := 0) (v := G 0 0 + 1) (by decide)
          refine Act.ok (w := G 0 0) ?_ (by omega) trivial (S1.chg (G' := nst G a b) (by omega) (by omega) (wf_mono (wf_nst S.wf (by omega) (by omega) (by omega) e) (by omega) (by omega)) C')
          rfl
    · rw [if_neg g]; exact Act.no (by decide)
  · rw [if_neg h]; exact Act.no (by decide)
theorem k_undo0 {H : Nat → NB} {N : Nat} {G : NB} {P : Option NB} {hs : Int32} {n0 n1 : Blk} {ζ : Row} {η : Nat → Blk} (S : St N G 0 H P hs n0 n1 ζ η) (n2 : Blk) (δ : Row) (χ : Blk) : f_X5_undo hs n0 n1 n2 ζ η δ χ = some (-100005, n0, ζ) := by
  obtain ⟨hz5, h1, ⟨o, ho, h0, hη⟩, hH⟩ := S.hi
  unfold f_X5_undo
  rw [h1, if_pos (by decide)]
theorem k_undo {N : Nat} {G : NB} {z : Nat} {H : Nat → NB} {P : Option NB} {hs : Int32} {n0 n1 : Blk} {ζ : Row} {η : Nat → Blk} (S : St N G z H P hs n0 n1 ζ η) (hz : 0 < z) (n2 : Blk) (δ : Row) (χ : Blk) : ∃ n0' ζ', f_X5_undo hs n0 n1 n2 ζ η δ χ = some (nI (z - 1), n0', ζ') ∧ St N (H (z - 1)) (z - 1) H P hs n0' n1 ζ' η := by
  obtain ⟨hz5, h1, ⟨o, ho, h0, hη⟩, hH⟩ := S.hi
  unfold f_X5_undo
  rw [h1]
  have nz : ¬ nI z = (0 : Int32) := by
    rw [e0]; intro c
    have := (nI_eq (by omega) (by decide)).mp c
    omega
  have nz' : ¬ nI z ≤ (0 : Int32) := by
    rw [e0]; exact nI_ge (by omega) (by omega)
  obtain ⟨σ', c1, c2⟩ := cl_copy (σ := n0) (hη (z - 1) (by omega))
  have hr : rem5 (nI o + (nI z - 1)) = nI ((o + (z - 1)) % 5) := by
    rw [e1, nI_sub (by omega), nI_add, rem5_nI (by omega)]
  have lt5 : (o + (z - 1)) % 5 < 5 := Nat.mod_lt _ (by decide)
  rw [if_neg nz]
  unfold f_X2_takeLatest
  rw [h1, h0, if_neg nz', hr, ib_nI lt5 (by decide), if_pos rfl, nI_clamp (by omega), c1, Option.bind_some, Option.bind_some]
  have u1 : upd ζ 1 (nI z - 1) 1 = nI (z - 1) := by rw [upd_app, if_pos rfl, e1, nI_sub (by omega)]
  refine ⟨_, _, by show some (upd ζ 1 (nI z - 1) 1, σ', upd ζ 1 (nI z - 1)) = _; rw [u1], hH (z - 1) (by omega), c2, ⟨by omega, u1, ⟨o, ho, by rw [upd_app, if_neg (by decide)]; exact h0, fun i hi => hη i (by omega)⟩, fun i hi => hH i (by omega)⟩, S.sv⟩
theorem k_save {N : Nat} {G : NB} {z : Nat} {H : Nat → NB} {P : Option NB} {hs : Int32} {n0 n1 : Blk} {ζ : Row} {η : Nat → Blk} (S : St N G z H P hs n0 n1 ζ η) (n2 : Blk) (δ : Row) (χ : Blk) : ∃ hs' n1', f_X5_save hs n0 n1 n2 ζ η δ χ = some (nI (ppl G), hs', n1') ∧ St N G z H (some G) hs' n0 n1' ζ η := by
  obtain ⟨σ', c1, c2⟩ := cl_copy (σ := n1) S.cl
  unfold f_X5_save
  rw [c1, Option.bind_some, cl_ppl S.cl, Option.bind_some]
  exact ⟨_, _, rfl, S.wf, S.cl, S.hi, rfl, S.wf, c2⟩
theorem k_restore {N : Nat} {G : NB} {z : Nat} {H : Nat → NB} {P : Option NB} {hs : Int32} {n0 n1 : Blk} {ζ : Row} {η : Nat → Blk} (S : St N G z H P hs n0 n1 ζ η) (hN : N + 600000 ≤ 536870912) (n2 : Blk) (δ : Row) (χ : Blk) : Act N G z H P hs n0 n1 ζ η (fun _ _ => True) (f_X5_restore hs n0 n1 n2 ζ η δ χ) := by
  unfold f_X5_restore
  cases P with
  | none => rw [if_pos (show hs = 0 from S.sv)]; exact Act.no (by decide)
  | some Gs =>
    obtain ⟨s1, s3, s4⟩ := S.sv
    rw [if_neg (by rw [s1]; decide)]
    obtain ⟨ζ', η', a1, S1⟩ := S.rec
    obtain ⟨σ', c1, c2⟩ := cl_copy (σ := n0) s4
    have pl := ppl_le s3
    rw [a1, Option.bind_some, c1, Option.bind_some, cl_ppl c2, Option.bind_some]
    exact Act.ok rfl (by omega) trivial (S1.chg (by omega) (by omega) (wf_mono s3 (by omega) (by omega)) c2)
theorem k_restore0 {H : Nat → NB} {N z : Nat} {G : NB} {hs : Int32} {n0 n1 : Blk} {ζ : Row} {η : Nat → Blk} (S : St N G z H none hs n0 n1 ζ η) (n2 : Blk) (δ : Row) (χ : Blk) : f_X5_restore hs n0 n1 n2 ζ η δ χ = some (-100004, n0, ζ, η) := by
  unfold f_X5_restore
  rw [if_pos (show hs = 0 from S.sv)]
theorem k_restoreS {Gs : NB} {H : Nat → NB} {N z : Nat} {G : NB} {hs : Int32} {n0 n1 : Blk} {ζ : Row} {η : Nat → Blk} (S : St N G z H (some Gs) hs n0 n1 ζ η) (n2 : Blk) (δ : Row) (χ : Blk) : ∃ n0' ζ' η', f_X5_restore hs n0 n1 n2 ζ η δ χ = some (nI (ppl Gs), n0', ζ', η') ∧ St N Gs (min (z + 1) 5) (pushH z H G) (some Gs) hs n0' n1 ζ' η' := by
  unfold f_X5_restore
  obtain ⟨s1, s3, s4⟩ := S.sv
  rw [if_neg (by rw [s1]; decide)]
  obtain ⟨ζ', η', a1, S1⟩ := S.rec
  obtain ⟨σ', c1, c2⟩ := cl_copy (σ := n0) s4
  rw [a1, Option.bind_some, c1, Option.bind_some, cl_ppl c2, Option.bind_some]
  exact ⟨_, ζ', η', rfl, s3, c2, S1.hi, S1.sv⟩
