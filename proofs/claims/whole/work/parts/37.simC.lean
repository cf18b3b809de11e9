/-! class and reference side by side: audit, stile, undo, save, restore -/
theorem mo_cnt1 {s : Row} {b : Nat} {G : NB} (M : Mod s b G) {k c : Nat} (h12 : k < 12) (hc : c < 4) (x : Nat) : Mod (upd s (b + 16 + 20 * k + 4 + 4 * c) (nI x)) b (setN G 7 (k * 4 + c) x) := by
  refine ⟨?_, fun h h1 h2 => ?_, fun k' hk => ?_, fun k' c' hk hc' => ?_⟩
  · simp (disch := omega) only [pk_un]
    exact M.1
  · simp (disch := omega) only [pk_un]
    exact M.2.1 h h1 h2
  · have hk' : k' < G 0 0 := hk
    simp (disch := omega) only [pk_un]
    exact M.2.2.1 k' hk'
  · have hk' : k' < G 0 0 := hk
    have m := M.2.2.2 k' c' hk' hc'
    by_cases e : k' = k ∧ c' = c
    · obtain ⟨rfl, rfl⟩ := e
      simp (disch := omega) only [pk_un, pk_us]
      refine ⟨?_, m.2⟩
      simp [setN_app]
    · simp (disch := omega) only [pk_un]
      have ne : ¬ k' * 4 + c' = k * 4 + c := fun q => e ⟨by omega, by omega⟩
      simp only [setN_app, ne, and_false, if_false]
      exact m
theorem wf_cnt1 {G : NB} {N : Nat} (Wf : WF N G) {i v : Nat} (hi : i < G 0 0 * 4) (hv : v ≤ N) : WF N (setN G 7 i v) := by
  refine ⟨Wf.1, Wf.2.1, Wf.2.2.1, Wf.2.2.2.1, Wf.2.2.2.2.1, fun j hj => ?_, Wf.2.2.2.2.2.2.1, fun j j1 j2 => ?_⟩
  · have w := Wf.2.2.2.2.2.1 j hj
    refine ⟨?_, w.2⟩
    rw [setN_app]; split
    · exact hv
    · exact w.1
  · have j1' : G 0 0 * 4 ≤ j := j1
    have w := Wf.2.2.2.2.2.2.2 j j1' j2
    refine ⟨?_, w.2⟩
    rw [setN_app, if_neg (by omega)]
    exact w.1
/-- the counters of a stile after an audit -/
def ag2 (G : NB) (k c1 c2 v : Nat) : NB := setN (setN G 7 (k * 4 + c1) v) 7 (k * 4 + c2) v
def agr (G : NB) (k : Nat) : NB := ag2 (ag2 G k 0 3 (max (G 7 (k * 4 + 0)) (G 7 (k * 4 + 3)))) k 1 2 (max (G 7 (k * 4 + 1)) (G 7 (k * 4 + 2)))
theorem wf_agr {G : NB} {N : Nat} (Wf : WF N G) {k : Nat} (hk : k < G 0 0) : WF N (agr G k) := by
  have hm := Wf.2.1.1
  have w0 := (Wf.2.2.2.2.2.1 (k * 4 + 0) (by omega)).1
  have w1 := (Wf.2.2.2.2.2.1 (k * 4 + 1) (by omega)).1
  have w2 := (Wf.2.2.2.2.2.1 (k * 4 + 2) (by omega)).1
  have w3 := (Wf.2.2.2.2.2.1 (k * 4 + 3) (by omega)).1
  have i0 : k * 4 + 0 < G 0 0 * 4 := by omega
  have i1 : k * 4 + 1 < G 0 0 * 4 := by omega
  have i2 : k * 4 + 2 < G 0 0 * 4 := by omega
  have i3 : k * 4 + 3 < G 0 0 * 4 := by omega
  exact wf_cnt1 (wf_cnt1 (wf_cnt1 (wf_cnt1 Wf i0 (Nat.max_le.mpr ⟨w0, w3⟩)) i3 (Nat.max_le.mpr ⟨w0, w3⟩)) i1 (Nat.max_le.mpr ⟨w1, w2⟩)) i2 (Nat.max_le.mpr ⟨w1, w2⟩)
theorem cl_pair {σ : Blk} {G : NB} {N : Nat} (C : Cls σ G) (Wf : WF N G) {k c1 c2 : Nat} (hk : k < 12) (h1 : c1 < 4) (h2 : c2 < 4) : ∃ σ', f_X1_makePairAgree σ (nI k) (nI c1) (nI c2) = some σ' ∧ Cls σ' (ag2 G k c1 c2 (max (G 7 (k * 4 + c1)) (G 7 (k * 4 + c2)))) := by
  have w1 := (Wf.2.2.2.2.2.1 (k * 4 + c1) (by omega)).1
  have w2 := (Wf.2.2.2.2.2.1 (k * 4 + c2) (by omega)).1
  have n := Wf.1
  unfold f_X1_makePairAgree
  rw [cl_countOf C hk h1, Option.bind_some, cl_countOf C hk h2, Option.bind_some]
  simp only [lt, ci_k]
  rw [nI_max (by omega) (by omega), put_k (by omega) (by decide), Option.bind_some, put_k (by omega) (by decide), Option.bind_some]
  exact ⟨_, rfl, cl_set (cl_set C (by decide)) (by decide)⟩
theorem cl_agr {σ : Blk} {G : NB} {N : Nat} (C : Cls σ G) (Wf : WF N G) {k : Nat} (hk : k < G 0 0) : ∃ σ', f_X1_makeAgree σ (nI k) = some σ' ∧ Cls σ' (agr G k) := by
  have hm := Wf.2.1.1
  have w0 := (Wf.2.2.2.2.2.1 (k * 4 + 0) (by omega)).1
  have w3 := (Wf.2.2.2.2.2.1 (k * 4 + 3) (by omega)).1
  obtain ⟨σ1, a1, a2⟩ := cl_pair C Wf (k := k) (c1 := 0) (c2 := 3) (by omega) (by decide) (by decide)
  have i0 : k * 4 + 0 < G 0 0 * 4 := by omega
  have i3 : k * 4 + 3 < G 0 0 * 4 := by omega
  have W1 : WF N (ag2 G k 0 3 (max (G 7 (k * 4 + 0)) (G 7 (k * 4 + 3)))) := wf_cnt1 (wf_cnt1 Wf i0 (Nat.max_le.mpr ⟨w0, w3⟩)) i3 (Nat.max_le.mpr ⟨w0, w3⟩)
  obtain ⟨σ2, b1, b2⟩ := cl_pair a2 W1 (k := k) (c1 := 1) (c2 := 2) (by omega) (by decide) (by decide)
  have g1 : ag2 G k 0 3 (max (G 7 (k * 4 + 0)) (G 7 (k * 4 + 3))) 7 (k * 4 + 1) = G 7 (k * 4 + 1) := by
    simp only [ag2, setN_app]; rw [if_neg (by omega), if_neg (by omega)]
  have g2 : ag2 G k 0 3 (max (G 7 (k * 4 + 0)) (G 7 (k * 4 + 3))) 7 (k * 4 + 2) = G 7 (k * 4 + 2) := by
    simp only [ag2, setN_app]; rw [if_neg (by omega), if_neg (by omega)]
  rw [g1, g2] at b2
  refine ⟨σ2, ?_, b2⟩
  unfold f_X1_makeAgree
  rw [e0, e3, a1, Option.bind_some, e1, e2, b1]
  rfl
theorem mo_agr {μ : Blk} {G : NB} {N : Nat} (M : Mod (μ 1) 0 G) (Wf : WF N G) {k : Nat} (hk : k < G 0 0) : ∃ μ', f_X6_audits μ (nI k) = some μ' ∧ Mod (μ' 1) 0 (agr G k) ∧ Same 0 μ μ' := by
  have hm := Wf.2.1.1
  have n := Wf.1
  have w0 := (Wf.2.2.2.2.2.1 (k * 4 + 0) (by omega)).1
  have w1 := (Wf.2.2.2.2.2.1 (k * 4 + 1) (by omega)).1
  have w2 := (Wf.2.2.2.2.2.1 (k * 4 + 2) (by omega)).1
  have w3 := (Wf.2.2.2.2.2.1 (k * 4 + 3) (by omega)).1
  have m0 : μ 1 (0 + 16 + 20 * k + 4) = nI (G 7 (k * 4 + 0)) := (M.2.2.2 k 0 hk (by decide)).1
  have m1 : μ 1 (0 + 16 + 20 * k + 4 + 4) = nI (G 7 (k * 4 + 1)) := (M.2.2.2 k 1 hk (by decide)).1
  have m2 : μ 1 (0 + 16 + 20 * k + 4 + 8) = nI (G 7 (k * 4 + 2)) := (M.2.2.2 k 2 hk (by decide)).1
  have m3 : μ 1 (0 + 16 + 20 * k + 4 + 12) = nI (G 7 (k * 4 + 3)) := (M.2.2.2 k 3 hk (by decide)).1
  have fin : ∀ a b : Nat, a = max (G 7 (k * 4 + 0)) (G 7 (k * 4 + 3)) → b = max (G 7 (k * 4 + 1)) (G 7 (k * 4 + 2)) → ∀ ν1 ν2 ν3 ν4 : Blk, ν1 = upR μ 1 (upd (μ 1) (0 + 16 + 20 * k + 4) (nI a)) → ν2 = upR ν1 1 (upd (ν1 1) (0 + 16 + 20 * k + 4 + 12) (nI a)) → ν3 = upR ν2 1 (upd (ν2 1) (0 + 16 + 20 * k + 4 + 4) (nI b)) → ν4 = upR ν3 1 (upd (ν3 1) (0 + 16 + 20 * k + 4 + 8) (nI b)) → ∃ μ', some ν4 = some μ' ∧ Mod (μ' 1) 0 (agr G k) ∧ Same 0 μ μ' := by
    intro a b ha hb ν1 ν2 ν3 ν4 h1 h2 h3 h4
    refine ⟨ν4, rfl, ?_, ?_⟩
    · unfold agr
      rw [← ha, ← hb, h4]
      refine mo_w (mo_cnt1 (c := 2) ?_ (by omega) (by decide) b)
      rw [h3]
      refine mo_w (mo_cnt1 (c := 1) ?_ (by omega) (by decide) b)
      rw [h2]
      refine mo_w (mo_cnt1 (c := 3) ?_ (by omega) (by decide) a)
      rw [h1]
      exact mo_w (mo_cnt1 (c := 0) M (by omega) (by decide) a)
    · rw [h4]
      refine Same.tr ?_ (Same.up (by omega) (by omega))
      rw [h3]
      refine Same.tr ?_ (Same.up (by omega) (by omega))
      rw [h2]
      refine Same.tr ?_ (Same.up (by omega) (by omega))
      rw [h1]
      exact Same.up (by omega) (by omega)
  have i8 : (8 : Int32) = nI 8 := by decide
  unfold f_X6_audits
  simp only [lt, place0, e4, e12, i8, nI_add]
  simp (disch := omega) only [ib_nI, nI_clamp, if_true, m0, m1, m2, m3, nI_leI]
  by_cases p : G 7 (k * 4 + 0) ≤ G 7 (k * 4 + 3)
  · rw [if_pos p]
    by_cases q : G 7 (k * 4 + 1) ≤ G 7 (k * 4 + 2)
    · rw [if_pos q]
      exact fin _ _ (Nat.max_eq_right p).symm (Nat.max_eq_right q).symm _ _ _ _ rfl rfl rfl rfl
    · rw [if_neg q]
      exact fin _ _ (Nat.max_eq_right p).symm (Nat.max_eq_left (by omega)).symm _ _ _ _ rfl rfl rfl rfl
  · rw [if_neg p]
    by_cases q : G 7 (k * 4 + 1) ≤ G 7 (k * 4 + 2)
    · rw [if_pos q]
      exact fin _ _ (Nat.max_eq_left (by omega)).symm (Nat.max_eq_right q).symm _ _ _ _ rfl rfl rfl rfl
    · rw [if_neg q]
      exact fin _ _ (Nat.max_eq_left (by omega)).symm (Nat.max_eq_left (by omega)).symm _ _ _ _ rfl rfl rfl rfl
theorem sim_audit {N : Nat} {G : NB} {z : Nat} {H : Nat → NB} {hs : Int32} {n0 n1 : Blk} {ζ : Row} {η : Nat → Blk} {χ μ : Blk} (S : St N G z H hs n0 n1 ζ η χ μ) (hN : N + 600000 ≤ 536870912) (n2 : Blk) (δ : Row) (x1 : Int32) : Sim (N + 500000) hs n1 χ (f_X5_audit hs n0 n1 n2 ζ η δ χ x1) (f_X6_audit μ x1) := by
  unfold f_X5_audit f_X6_audit
  simp only [lt]
  rw [st_eq S.cl S.mo S.wf]
  by_cases h : f_X6_isStile μ x1 = true
  · rw [if_pos h, if_pos h]
    obtain ⟨k, hk, rfl⟩ := (mo_stile S.mo S.wf _).mp h
    have hm := S.wf.2.1.1
    obtain ⟨ζ', η', μ1, a1, a2, S1, p1⟩ := S.rec
    obtain ⟨σ', c1, c2⟩ := cl_agr S.cl S.wf hk
    obtain ⟨μ', m1, m2, m3⟩ := mo_agr S1.mo S1.wf hk
    rw [a1, a2, Option.bind_some, Option.bind_some, cl_gap S.cl S.wf (by omega), mo_gap S1.mo S1.wf hk (by omega), Option.bind_some, Option.bind_some, c1, m1]
    exact ⟨_, _, ζ', η', _, rfl, rfl, _, _, _, S1.chg' (by omega) (by omega) (wf_mono (wf_agr S.wf hk) (by omega) (by omega)) c2 m2 m3⟩
  · rw [if_neg h, if_neg h]; exact S.no (by omega) (by omega) _
theorem sim_undo {N : Nat} {G : NB} {z : Nat} {H : Nat → NB} {hs : Int32} {n0 n1 : Blk} {ζ : Row} {η : Nat → Blk} {χ μ : Blk} (S : St N G z H hs n0 n1 ζ η χ μ) (hN : N + 600000 ≤ 536870912) (n1' n2 : Blk) (δ : Row) : ∃ r n0' ζ' μ', f_X5_undo hs n0 n1' n2 ζ η δ χ = some (r, n0', ζ') ∧ f_X6_undo μ = some (r, μ') ∧ Inv (N + 500000) hs n0' n1 ζ' η χ μ' := by
  obtain ⟨hz5, h1, ⟨o, ho, h0, hη⟩, hH⟩ := S.hi
  unfold f_X5_undo f_X6_undo
  rw [h1, S.hz]
  by_cases q : z = 0
  · subst q
    rw [if_pos (by decide), if_pos (by decide)]
    exact ⟨_, _, _, _, rfl, rfl, _, _, _, S.mono (by omega) (by omega)⟩
  · have nz : ¬ nI z = (0 : Int32) := by
      rw [e0]; intro c; exact q ((nI_eq (by omega) (by decide)).mp c)
    have nz' : ¬ nI z ≤ (0 : Int32) := by
      rw [e0]; exact nI_ge (by omega) (by omega)
    obtain ⟨Mz, Wz⟩ := hH (z - 1) (by omega)
    rw [show z - 1 + 1 = z by omega] at Mz
    obtain ⟨μ1, b1, b2, b3⟩ := mo_copies (μ := μ) (f := z) (t := 0) (by omega) (by decide) q
    obtain ⟨σ', c1, c2⟩ := cl_copy (σ := n0) (hη (z - 1) (by omega))
    have hr : rem5 (nI o + (nI z - 1)) = nI ((o + (z - 1)) % 5) := by
      rw [e1, nI_sub (by omega), nI_add, rem5_nI (by omega)]
    have lt5 : (o + (z - 1)) % 5 < 5 := Nat.mod_lt _ (by decide)
    rw [if_neg nz, if_neg nz]
    unfold f_X2_takeLatest
    rw [h1, h0, if_neg nz', hr, ib_nI lt5 (by decide), if_pos rfl, nI_clamp (by omega), c1, Option.bind_some, Option.bind_some]
    rw [← e0] at b1
    rw [b1, Option.bind_some]
    simp only [lt]
    have y0 : μ1 0 0 = nI z := by rw [b2 0 (by decide)]; exact S.hz
    rw [y0, e1, nI_sub (by omega)]
    have hm := Wz.2.1.1
    have u1 : upd ζ 1 (nI (z - 1)) 1 = nI (z - 1) := by rw [upd_app, if_pos rfl]
    have u2 : up μ1 0 0 (nI (z - 1)) 0 0 = nI (z - 1) := by rw [up_app, if_pos ⟨rfl, rfl⟩]
    rw [u1, u2]
    refine ⟨_, _, _, _, rfl, rfl, H (z - 1), z - 1, H, ?_⟩
    · have r1 : (up μ1 0 0 (nI (z - 1))) 1 = μ1 1 := by
        funext j; rw [up_app, if_neg (by simp)]
      refine St.mono (N := N) ⟨Wz, c2, ?_, ⟨by omega, by rw [upd_app, if_pos rfl], ⟨o, ho, by rw [upd_app, if_neg (by decide)]; exact h0, fun i hi => hη i (by omega)⟩, fun i hi => ⟨?_, (hH i (by omega)).2⟩⟩, by rw [up_app, if_pos ⟨rfl, rfl⟩], ?_, ?_⟩ (by omega) (by omega)
      · rw [r1]
        have := cps_to b3 Mz hm
        simpa using this
      · rw [r1]
        exact cps_other b3 (by omega) (hH i (by omega)).1 (hH i (by omega)).2.2.1.1
      · rw [r1, up_app, if_neg (by decide), b2 0 (by decide)]
        rcases S.sv with s | ⟨s1, s2, Gs, s3, s4, s5⟩
        · exact .inl s
        · exact .inr ⟨s1, s2, Gs, s3, s4, cps_other (u := 6) b3 (by decide) s5 s3.2.1.1⟩
      · obtain ⟨t, t1, t2, t3, t4⟩ := S.tx
        refine ⟨t, t1, t2, ?_, fun i hi => ?_⟩
        · rw [up_app, if_neg (by decide), b2 0 (by decide)]; exact t3
        · rw [up_app, if_neg (by simp), b2 2 (by decide)]; exact t4 i hi
theorem sim_save {N : Nat} {G : NB} {z : Nat} {H : Nat → NB} {hs : Int32} {n0 n1 : Blk} {ζ : Row} {η : Nat → Blk} {χ μ : Blk} (S : St N G z H hs n0 n1 ζ η χ μ) (hN : N + 600000 ≤ 536870912) (n2 : Blk) (δ : Row) : ∃ r hs' n1' μ', f_X5_save hs n0 n1 n2 ζ η δ χ = some (r, hs', n1') ∧ f_X6_save μ = some (r, μ') ∧ Inv (N + 500000) hs' n0 n1' ζ η χ μ' := by
  have hm := S.wf.2.1.1
  obtain ⟨μ1, b1, b2, b3⟩ := mo_copies (μ := μ) (f := 0) (t := 6) (by decide) (by decide) (by decide)
  obtain ⟨σ', c1, c2⟩ := cl_copy (σ := n1) S.cl
  unfold f_X5_save f_X6_save
  rw [← e0, ← e6] at b1
  have M0 : Mod (μ1 1) 0 G := by
    have := cps_other (u := 0) b3 (by decide) (by simpa using S.mo) hm
    simpa using this
  have r1 : (up μ1 0 1 1) 1 = μ1 1 := by
    funext j; rw [up_app, if_neg (by simp)]
  have mp := mo_ppl (μ := up μ1 0 1 1) (b := 0) (by rw [r1]; exact M0) (by decide)
  rw [← e0] at mp
  rw [c1, b1, Option.bind_some, Option.bind_some, cl_ppl S.cl, Option.bind_some]
  simp only [lt]
  rw [mp, Option.bind_some]
  refine ⟨_, _, _, _, rfl, rfl, G, z, H, St.mono (N := N) ⟨S.wf, S.cl, by rw [r1]; exact M0, ⟨S.hi.1, S.hi.2.1, S.hi.2.2.1, fun i hi => ⟨?_, (S.hi.2.2.2 i hi).2⟩⟩, ?_, ?_, ?_⟩ (by omega) (by omega)⟩
  · rw [r1]
    have := S.hi.1
    exact cps_other b3 (by omega) (S.hi.2.2.2 i hi).1 (S.hi.2.2.2 i hi).2.2.1.1
  · rw [up_app, if_neg (by decide), b2 0 (by decide)]; exact S.hz
  · refine .inr ⟨rfl, by rw [up_app, if_pos ⟨rfl, rfl⟩], G, S.wf, c2, ?_⟩
    rw [r1]
    exact cps_to (t := 6) b3 (by simpa using S.mo) hm
  · obtain ⟨t, t1, t2, t3, t4⟩ := S.tx
    refine ⟨t, t1, t2, ?_, fun i hi => ?_⟩
    · rw [up_app, if_neg (by decide), b2 0 (by decide)]; exact t3
    · rw [up_app, if_neg (by simp), b2 2 (by decide)]; exact t4 i hi
theorem sim_restore {N : Nat} {G : NB} {z : Nat} {H : Nat → NB} {hs : Int32} {n0 n1 : Blk} {ζ : Row} {η : Nat → Blk} {χ μ : Blk} (S : St N G z H hs n0 n1 ζ η χ μ) (hN : N + 600000 ≤ 536870912) (n2 : Blk) (δ : Row) : Sim (N + 500000) hs n1 χ (f_X5_restore hs n0 n1 n2 ζ η δ χ) (f_X6_restore μ) := by
  unfold f_X5_restore f_X6_restore
  rcases S.sv with ⟨s1, s2⟩ | ⟨s1, s2, _⟩
  · rw [if_pos s1, if_pos s2]; exact S.no (by omega) (by omega) _
  · rw [if_neg (by rw [s1]; decide), if_neg (by rw [s2]; decide)]
    obtain ⟨ζ', η', μ1, a1, a2, S1, p1⟩ := S.rec
    rcases S1.sv with ⟨t1, t2⟩ | ⟨t1, t2, Gs, s3, s4, s5⟩
    · rw [s1] at t1; exact absurd t1 (by decide)
    obtain ⟨μ2, b1, b2, b3⟩ := mo_copies (μ := μ1) (f := 6) (t := 0) (by decide) (by decide) (by decide)
    obtain ⟨σ', c1, c2⟩ := cl_copy (σ := n0) s4
    rw [← e0, ← e6] at b1
    have M0 : Mod (μ2 1) 0 Gs := by
      have := cps_to (f := 6) b3 s5 s3.2.1.1
      simpa using this
    have mp := mo_ppl M0 (by decide)
    rw [← e0] at mp
    rw [a1, a2, Option.bind_some, Option.bind_some, c1, b1, Option.bind_some, Option.bind_some, cl_ppl c2, mp, Option.bind_some, Option.bind_some]
    refine ⟨_, _, ζ', η', _, rfl, rfl, Gs, _, _, S1.chg (by omega) (by omega) (wf_mono s3 (by omega) (by omega)) c2 M0 (fun j _ => congrFun (b2 0 (by decide)) j) (b2 2 (by decide)) (fun j q1 _ => ?_) rfl rfl⟩
    rw [b3]; unfold cps; rw [if_neg (by omega)]
