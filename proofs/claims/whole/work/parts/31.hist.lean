/-! copies of states in the class; the history on both sides -/
theorem cl_copyRow {n : Nat} {f1 f2 : Row} (hn : n < 2 ^ 31) : ∃ r, f_X5_copyRow n n f1 f2 = some r ∧ ∀ j, j < n → r j = f1 j := by
  have key : ∀ (d i m : Nat) (g : Row), i + d = n → d < m → (∀ j, j < i → g j = f1 j) → ∃ r, f_X5_copyRow_L2 n n f1 m g (nI i) = some r ∧ ∀ j, j < n → r j = f1 j := by
    intro d
    induction d with
    | zero =>
      intro i m g hi hm hg
      obtain ⟨m, rfl⟩ : ∃ q, m = q + 1 := ⟨m - 1, by omega⟩
      have : i = n := by omega
      subst this
      exact ⟨g, by rw [f_X5_copyRow_L2, if_pos (nI_le (Nat.le_refl _) hn)], hg⟩
    | succ d ih =>
      intro i m g hi hm hg
      obtain ⟨m, rfl⟩ : ∃ q, m = q + 1 := ⟨m - 1, by omega⟩
      rw [f_X5_copyRow_L2, if_neg (nI_ge (by omega) hn), if_neg (nI_ge (by omega) hn), ib_nI (by omega) hn, if_pos rfl, if_pos rfl, nI_clamp (by omega), nI_1]
      simp only [lt]
      exact ih (i + 1) m _ (by omega) (by omega) (fun j hj => by
        rw [upd_app]
        by_cases c : j = i
        · rw [if_pos c, c]
        · rw [if_neg c]; exact hg j (by omega))
  unfold f_X5_copyRow
  rw [e0]
  exact key n 0 FU f2 (by omega) (FU_big hn) (fun j hj => absurd hj (Nat.not_lt_zero _))
theorem cl_copy {σ τ : Blk} {G : NB} (C : Cls τ G) : ∃ σ', f_X4_copyFrom σ τ = some σ' ∧ Cls σ' G := by
  obtain ⟨r1, a1, b1⟩ := cl_copyRow (n := 6) (f1 := τ 1) (f2 := σ 1) (by decide)
  obtain ⟨r2, a2, b2⟩ := cl_copyRow (n := 6) (f1 := τ 2) (f2 := σ 2) (by decide)
  obtain ⟨r3, a3, b3⟩ := cl_copyRow (n := 12) (f1 := τ 3) (f2 := σ 3) (by decide)
  obtain ⟨r4, a4, b4⟩ := cl_copyRow (n := 12) (f1 := τ 4) (f2 := σ 4) (by decide)
  obtain ⟨r5, a5, b5⟩ := cl_copyRow (n := 12) (f1 := τ 5) (f2 := σ 5) (by decide)
  obtain ⟨r6, a6, b6⟩ := cl_copyRow (n := 12) (f1 := τ 6) (f2 := σ 6) (by decide)
  obtain ⟨r7, a7, b7⟩ := cl_copyRow (n := 48) (f1 := τ 7) (f2 := σ 7) (by decide)
  obtain ⟨r8, a8, b8⟩ := cl_copyRow (n := 48) (f1 := τ 8) (f2 := σ 8) (by decide)
  obtain ⟨r9, a9, b9⟩ := cl_copyRow (n := 48) (f1 := τ 9) (f2 := σ 9) (by decide)
  obtain ⟨r10, a10, b10⟩ := cl_copyRow (n := 48) (f1 := τ 10) (f2 := σ 10) (by decide)
  unfold f_X4_copyFrom f_X1_copyFrom
  simp only [lt, a1, a2, a3, a4, a5, a6, a7, a8, a9, a10, upR_app, Option.bind_some, show ¬ (2 = 1) by decide, show ¬ (3 = 1) by decide, show ¬ (3 = 2) by decide, show ¬ (4 = 1) by decide, show ¬ (4 = 2) by decide, show ¬ (4 = 3) by decide, show ¬ (5 = 1) by decide, show ¬ (5 = 2) by decide, show ¬ (5 = 3) by decide, show ¬ (5 = 4) by decide, show ¬ (6 = 1) by decide, show ¬ (6 = 2) by decide, show ¬ (6 = 3) by decide, show ¬ (6 = 4) by decide, show ¬ (6 = 5) by decide, show ¬ (7 = 1) by decide, show ¬ (7 = 2) by decide, show ¬ (7 = 3) by decide, show ¬ (7 = 4) by decide, show ¬ (7 = 5) by decide, show ¬ (7 = 6) by decide, show ¬ (8 = 1) by decide, show ¬ (8 = 2) by decide, show ¬ (8 = 3) by decide, show ¬ (8 = 4) by decide, show ¬ (8 = 5) by decide, show ¬ (8 = 6) by decide, show ¬ (8 = 7) by decide, show ¬ (9 = 1) by decide, show ¬ (9 = 2) by decide, show ¬ (9 = 3) by decide, show ¬ (9 = 4) by decide, show ¬ (9 = 5) by decide, show ¬ (9 = 6) by decide, show ¬ (9 = 7) by decide, show ¬ (9 = 8) by decide, show ¬ (10 = 1) by decide, show ¬ (10 = 2) by decide, show ¬ (10 = 3) by decide, show ¬ (10 = 4) by decide, show ¬ (10 = 5) by decide, show ¬ (10 = 6) by decide, show ¬ (10 = 7) by decide, show ¬ (10 = 8) by decide, show ¬ (10 = 9) by decide, if_false]
  refine ⟨_, rfl, ?_⟩
  refine ⟨fun i hi => ?_, fun h h1 h2 => ?_, fun h h1 h2 => ?_, fun k hk => ?_, fun j hj => ?_⟩
  · have c := C.1 i hi
    have hi4 : i = 0 ∨ i = 1 ∨ i = 2 ∨ i = 3 := by omega
    rcases hi4 with rfl | rfl | rfl | rfl <;> simpa [up_app] using c
  · have c := C.2.1 h h1 h2
    simp [up_app, upR_app, b1 h (by omega), c]
  · have c := C.2.2.1 h h1 h2
    simp [up_app, upR_app, b2 h (by omega), c]
  · have c := C.2.2.2.1 k hk
    simp [up_app, upR_app, b3 k hk, b4 k hk, b5 k hk, b6 k hk, c]
  · have c := C.2.2.2.2 j hj
    simp [up_app, upR_app, b7 j hj, b8 j hj, b9 j hj, b10 j hj, c]
theorem rem5_nI {a : Nat} (h : a < 2 ^ 31) : rem5 (nI a) = nI (a % 5) := by
  unfold rem5
  rw [e5, nI_div h (by decide) (by decide), nI_rem h (by decide) (by decide)]
/-- the history: z states, the oldest first, in the class's ring and in the reference's row -/
def Hst (N : Nat) (ζ : Row) (η : Nat → Blk) (s : Row) (z : Nat) (H : Nat → NB) : Prop :=
  z ≤ 5 ∧ ζ 1 = nI z ∧ (∃ o, o < 5 ∧ ζ 0 = nI o ∧ ∀ i, i < z → Cls (η ((o + i) % 5)) (H i)) ∧ ∀ i, i < z → Mod s (256 * (i + 1)) (H i) ∧ WF N (H i)
def pushH (z : Nat) (H : Nat → NB) (G : NB) : Nat → NB := if z < 5 then fun i => if i = z then G else H i else fun i => if i = 4 then G else H (i + 1)
theorem pushH_5 (H : Nat → NB) (G : NB) (i : Nat) : pushH 5 H G i = if i = 4 then G else H (i + 1) := by
  unfold pushH
  rw [if_neg (by decide)]
theorem pushH_lt {z : Nat} (h : z < 5) (H : Nat → NB) (G : NB) (i : Nat) : pushH z H G i = if i = z then G else H i := by
  unfold pushH
  rw [if_pos h]
theorem upN_app (η : Nat → Blk) (j : Nat) (σ : Blk) (i : Nat) : upN η j σ i = if i = j then σ else η i := by
  unfold upN
  by_cases h : i = j
  · subst h; simp
  · rw [if_neg h]
    have : Nat.beq i j = false := by
      cases hh : Nat.beq i j with
      | false => rfl
      | true => exact absurd (Nat.eq_of_beq_eq_true hh) h
    rw [this]; rfl
/-- the class keeps a state -/
theorem cl_keep {ζ : Row} {η : Nat → Blk} {σ : Blk} {G : NB} {z o : Nat} {H : Nat → NB} (C : Cls σ G) (hz : z ≤ 5) (h1 : ζ 1 = nI z) (ho : o < 5) (h0 : ζ 0 = nI o) (hη : ∀ i, i < z → Cls (η ((o + i) % 5)) (H i)) :
    ∃ ζ' η' o', f_X2_keep ζ η σ = some (ζ', η') ∧ ζ' 1 = nI (min (z + 1) 5) ∧ o' < 5 ∧ ζ' 0 = nI o' ∧ ∀ i, i < min (z + 1) 5 → Cls (η' ((o' + i) % 5)) (pushH z H G i) := by
  obtain ⟨k, ek, Ck⟩ := cl_copy (σ := η ((o + z) % 5)) C
  have hr : rem5 (ζ 0 + ζ 1) = nI ((o + z) % 5) := by rw [h0, h1, nI_add, rem5_nI (by omega)]
  have hlt : (o + z) % 5 < 5 := Nat.mod_lt _ (by decide)
  unfold f_X2_keep
  rw [hr, ib_nI hlt (by decide), if_pos rfl, nI_clamp (by omega), ek, Option.bind_some, h1, e5]
  by_cases c : z = 5
  · subst c
    rw [if_pos (by decide), h0, e1, nI_add, rem5_nI (by omega)]
    refine ⟨_, _, (o + 1) % 5, rfl, ?_, Nat.mod_lt _ (by decide), by rw [upd_app, if_pos rfl], fun i hi => ?_⟩
    · rw [upd_app, if_neg (by decide), h1]; rfl
    · rw [pushH_5, upN_app]
      have hi5 : i < 5 := hi
      by_cases d : i = 4
      · rw [if_pos (show ((o + 1) % 5 + i) % 5 = (o + 5) % 5 by subst d; omega), if_pos d]; exact Ck
      · rw [if_neg (show ¬ ((o + 1) % 5 + i) % 5 = (o + 5) % 5 by omega), if_neg d]
        have := hη (i + 1) (by omega)
        rw [show ((o + 1) % 5 + i) % 5 = (o + (i + 1)) % 5 by omega]
        exact this
  · rw [if_neg (nI_ge (by omega) (by decide)), nI_1]
    refine ⟨_, _, o, rfl, ?_, ho, ?_, fun i hi => ?_⟩
    · rw [upd_app, if_pos rfl, Nat.min_eq_left (by omega)]
    · rw [upd_app, if_neg (by decide), h0]
    · rw [pushH_lt (by omega), upN_app]
      by_cases d : i = z
      · rw [if_pos (show (o + i) % 5 = (o + z) % 5 by rw [d]), if_pos d]; exact Ck
      · rw [if_neg (show ¬ (o + i) % 5 = (o + z) % 5 by omega), if_neg d]
        exact hη i (by omega)
/-- the reference keeps a state -/
theorem mo_records {μ : Blk} {G : NB} {N z : Nat} {H : Nat → NB} (M : Mod (μ 1) 0 G) (Wf : WF N G) (hz : z ≤ 5) (h0 : μ 0 0 = nI z) (hH : ∀ i, i < z → Mod (μ 1) (256 * (i + 1)) (H i) ∧ WF N (H i)) :
    ∃ μ', f_X6_records μ = some μ' ∧ μ' 0 0 = nI (min (z + 1) 5) ∧ (∀ p j, p ≠ 1 → ¬ (p = 0 ∧ j = 0) → μ' p j = μ p j) ∧ (∀ i, i < min (z + 1) 5 → Mod (μ' 1) (256 * (i + 1)) (pushH z H G i) ∧ WF N (pushH z H G i)) ∧ Mod (μ' 1) 0 G ∧ ∀ j, 1536 ≤ j → μ' 1 j = μ 1 j := by
  have hm := Wf.2.1.1
  have hmH : ∀ i, i < z → H i 0 0 ≤ 12 := fun i hi => (hH i hi).2.2.1.1
  unfold f_X6_records
  rw [h0, e5]
  by_cases c : z = 5
  · subst c
    rw [if_pos rfl]
    -- the four shifts
    have shift : ∀ (d k n : Nat) (ν : Blk), k + d = 5 → 1 ≤ k → d < n → (∀ p, p ≠ 1 → ν p = μ p) → (∀ u, (1 ≤ u ∧ u < k) → Mod (ν 1) (256 * u) (H u)) → (∀ u, k ≤ u ∧ u ≤ 5 → Mod (ν 1) (256 * u) (H (u - 1))) → Mod (ν 1) 0 G → (∀ j, 1536 ≤ j → ν 1 j = μ 1 j) →
        ∃ ν', f_X6_records_L10 n ν (nI k) = (lt (up ν' 0 0 ((ν' 0 0) - 1)) fun m36 => lt (up m36 0 0 ((m36 0 0) + 1)) fun m46 => (f_X6_copies m46 0 (m46 0 0)).bind fun q55 => some q55) ∧ (∀ p, p ≠ 1 → ν' p = μ p) ∧ (∀ u, (1 ≤ u ∧ u < 5) → Mod (ν' 1) (256 * u) (H u)) ∧ Mod (ν' 1) 0 G ∧ (∀ j, 1536 ≤ j → ν' 1 j = μ 1 j) := by
      intro d
      induction d with
      | zero =>
        intro k n ν hk hk1 hn a1 a2 a3 a4 a5
        obtain ⟨n, rfl⟩ : ∃ m, n = m + 1 := ⟨n - 1, by omega⟩
        have hk' : k = 5 := by omega
        subst hk'
        exact ⟨ν, by rw [f_X6_records_L10, if_pos (by decide)], a1, a2, a4, a5⟩
      | succ d ih =>
        intro k n ν hk hk1 hn a1 a2 a3 a4 a5
        obtain ⟨n, rfl⟩ : ∃ m, n = m + 1 := ⟨n - 1, by omega⟩
        obtain ⟨ν1, b1, b2, b3⟩ := mo_copies (μ := ν) (f := k + 1) (t := k) (by omega) (by omega) (by omega)
        obtain ⟨ν', g1, g2⟩ := ih (k + 1) n ν1 (by omega) (by omega) (by omega) (fun p hp => (b2 p hp).trans (a1 p hp)) (fun u hu => by
          by_cases e : u = k
          · subst e
            refine cps_to b3 ?_ (hmH _ (by omega))
            have := a3 (u + 1) (by omega)
            rwa [Nat.add_sub_cancel] at this
          · exact cps_other b3 e (a2 u (by omega)) (hmH _ (by omega))) (fun u hu => cps_other b3 (by omega) (a3 u (by omega)) (hmH _ (by omega))) (by
            have := cps_other (u := 0) b3 (by omega) a4 hm
            simpa using this) (fun j hj => by
              rw [b3]; unfold cps
              rw [if_neg (by omega)]
              exact a5 j hj)
        refine ⟨ν', ?_, g2⟩
        rw [f_X6_records_L10, e5, if_neg (nI_ge (by omega) (by decide)), nI_1, b1, Option.bind_some]
        exact g1
    obtain ⟨ν, g1, g2, g3, g4, g5⟩ := shift 4 1 FU μ rfl (by decide) (FU_big (by decide)) (fun _ _ => rfl) (fun u hu => by omega) (fun u hu => by
      have := (hH (u - 1) (by omega)).1
      rwa [show u - 1 + 1 = u by omega] at this) M (fun _ _ => rfl)
    rw [e1, g1]
    have z4 : ν 0 0 - 1 = nI 4 := by rw [g2 0 (by decide), h0]; decide
    simp only [lt]
    rw [z4]
    have y0 : up ν 0 0 (nI 4) 0 0 = nI 4 := by rw [up_app, if_pos ⟨rfl, rfl⟩]
    rw [y0, nI_1]
    obtain ⟨μ', b1, b2, b3⟩ := mo_copies (μ := up (up ν 0 0 (nI 4)) 0 0 (nI (4 + 1))) (f := 0) (t := 5) (by decide) (by decide) (by decide)
    have r1 : (up (up ν 0 0 (nI 4)) 0 0 (nI (4 + 1))) 1 = ν 1 := by
      funext j; rw [up_app, if_neg (by simp), up_app, if_neg (by simp)]
    rw [r1] at b3
    refine ⟨μ', ?_, ?_, ?_, ?_, ?_, ?_⟩
    · rw [show up (up ν 0 0 (nI 4)) 0 0 (nI (4 + 1)) 0 0 = nI 5 by rw [up_app, if_pos ⟨rfl, rfl⟩], e0, b1]; rfl
    · rw [b2 0 (by decide), up_app, if_pos ⟨rfl, rfl⟩]; rfl
    · intro p j hp hj
      rw [b2 p hp, up_app, if_neg hj, up_app, if_neg hj, g2 p hp]
    · intro i hi
      have hi5 : i < 5 := hi
      rw [pushH_5]
      by_cases d : i = 4
      · subst d
        rw [if_pos rfl]
        exact ⟨cps_to b3 (by simpa using g4) hm, Wf⟩
      · rw [if_neg d]
        exact ⟨cps_other b3 (by omega) (g3 (i + 1) (by omega)) (hmH _ (by omega)), (hH (i + 1) (by omega)).2⟩
    · have := cps_other (u := 0) b3 (by omega) (by simpa using g4) hm
      simpa using this
    · intro j hj
      rw [b3]; unfold cps
      rw [if_neg (by omega)]
      exact g5 j hj
  · rw [if_neg (fun q => c ((nI_eq (by omega) (by decide)).mp q)), nI_1]
    simp only [lt]
    obtain ⟨μ', b1, b2, b3⟩ := mo_copies (μ := up μ 0 0 (nI (z + 1))) (f := 0) (t := z + 1) (by decide) (by omega) (by omega)
    have r1 : (up μ 0 0 (nI (z + 1))) 1 = μ 1 := by
      funext j; rw [up_app, if_neg (by simp)]
    rw [r1] at b3
    refine ⟨μ', ?_, ?_, ?_, ?_, ?_, ?_⟩
    · rw [show up μ 0 0 (nI (z + 1)) 0 0 = nI (z + 1) by rw [up_app, if_pos ⟨rfl, rfl⟩], e0, b1]; rfl
    · rw [b2 0 (by decide), up_app, if_pos ⟨rfl, rfl⟩, Nat.min_eq_left (by omega)]
    · intro p j hp hj
      rw [b2 p hp, up_app, if_neg hj]
    · intro i hi
      rw [pushH_lt (by omega)]
      by_cases d : i = z
      · subst d
        rw [if_pos rfl]
        exact ⟨cps_to b3 (by simpa using M) hm, Wf⟩
      · rw [if_neg d]
        exact ⟨cps_other b3 (by omega) (hH i (by omega)).1 (hmH _ (by omega)), (hH i (by omega)).2⟩
    · have := cps_other (u := 0) b3 (by omega) (by simpa using M) hm
      simpa using this
    · intro j hj
      rw [b3]; unfold cps
      rw [if_neg (by omega)]
