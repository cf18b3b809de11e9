/-! copies of states in the class; the history on both sides -/
theorem cl_copyRow {n : Nat} {f1 f2 : Row} (hn : n < 2 ^ 31) : ∃ r, f_X5_copyRow n n f1 f2 = some r ∧ ∀ j, j < n → r j = f1 j := by
  have key : ∀ (d i m : Nat) (g : Row), i + d = n → d < m → (∀ j, j < i → g j = f1 j) → ∃ r, f_X5_copyRow_L2 n n f1 m g (nI i) = some r ∧ ∀ j, j < n → r j = f1 j := by
    intro d
    induction d with
    | zero =>
      intro i m g hi hm hg
      obtain ⟨m, rfl⟩ : ∃ q, m = q + 1 := ⟨m - 1, by omega⟩
      have : i = n := by omega
      subst this
      exact ⟨g, by rw [f_X5_copyRow_L2, if_pos (nI_le (Nat.le_refl _) hn)], hg⟩
    | succ d ih =>
      intro i m g hi hm hg
      obtain ⟨m, rfl⟩ : ∃ q, m = q + 1 := ⟨m - 1, by omega⟩
      rw [f_X5_copyRow_L2, if_neg (nI_ge (by omega) hn), if_neg (nI_ge (by omega) hn), ib_nI (by omega) hn, if_pos rfl, if_pos rfl, nI_clamp (by omega), nI_1]
      simp only [lt]
      exact ih (i + 1) m _ (by omega) (by omega) (fun j hj => by
        rw [upd_app]
        by_cases c : j = i
        · rw [if_pos c, c]
        · rw [if_neg c]; exact hg j (by omega))
  unfold f_X5_copyRow
  rw [e0]
  exact key n 0 FU f2 (by omega) (FU_big hn) (fun j hj => absurd hj (Nat.not_lt_zero _))
theorem cl_copy {σ τ : Blk} {G : NB} (C : Cls τ G) : ∃ σ', f_X4_copyFrom σ τ = some σ' ∧ Cls σ' G := by
  obtain ⟨r1, a1, b1⟩ := cl_copyRow (n := 6) (f1 := τ 1) (f2 := σ 1) (by decide)
  obtain ⟨r2, a2, b2⟩ := cl_copyRow (n := 6) (f1 := τ 2) (f2 := σ 2) (by decide)
  obtain ⟨r3, a3, b3⟩ := cl_copyRow (n := 12) (f1 := τ 3) (f2 := σ 3) (by decide)
  obtain ⟨r4, a4, b4⟩ := cl_copyRow (n := 12) (f1 := τ 4) (f2 := σ 4) (by decide)
  obtain ⟨r5, a5, b5⟩ := cl_copyRow (n := 12) (f1 := τ 5) (f2 := σ 5) (by decide)
  obtain ⟨r6, a6, b6⟩ := cl_copyRow (n := 12) (f1 := τ 6) (f2 := σ 6) (by decide)
  obtain ⟨r7, a7, b7⟩ := cl_copyRow (n := 48) (f1 := τ 7) (f2 := σ 7) (by decide)
  obtain ⟨r8, a8, b8⟩ := cl_copyRow (n := 48) (f1 := τ 8) (f2 := σ 8) (by decide)
  obtain ⟨r9, a9, b9⟩ := cl_copyRow (n := 48) (f1 := τ 9) (f2 := σ 9) (by decide)
  obtain ⟨r10, a10, b10⟩ := cl_copyRow (n := 48) (f1 := τ 10) (f2 := σ 10) (by decide)
  unfold f_X4_copyFrom f_X1_copyFrom
  simp only [lt, a1, a2, a3, a4, a5, a6, a7, a8, a9, a10, upR_app, Option.bind_some, show ¬ (2 = 1) by decide, show ¬ (3 = 1) by decide, show ¬ (3 = 2) by decide, show ¬ (4 = 1) by decide, show ¬ (4 = 2) by decide, show ¬ (4 = 3) by decide, show ¬ (5 = 1) by decide, show ¬ (5 = 2) by decide, show ¬ (5 = 3) by decide, show ¬ (5 = 4) by decide, show ¬ (6 = 1) by decide, show ¬ (6 = 2) by decide, show ¬ (6 = 3) by decide, show ¬ (6 = 4) by decide, show ¬ (6 = 5) by decide, show ¬ (7 = 1) by decide, show ¬ (7 = 2) by decide, show ¬ (7 = 3) by decide, show ¬ (7 = 4) by decide, show ¬ (7 = 5) by decide, show ¬ (7 = 6) by decide, show ¬ (8 = 1) by decide, show ¬ (8 = 2) by decide, show ¬ (8 = 3) by decide, show ¬ (8 = 4) by decide, show ¬ (8 = 5) by decide, show ¬ (8 = 6) by decide, show ¬ (8 = 7) by decide, show ¬ (9 = 1) by decide, show ¬ (9 = 2) by decide, show ¬ (9 = 3) by decide, show ¬ (9 = 4) by decide, show ¬ (9 = 5) by decide, show ¬ (9 = 6) by decide, show ¬ (9 = 7) by decide, show ¬ (9 = 8) by decide, show ¬ (10 = 1) by decide, show ¬ (10 = 2) by decide, show ¬ (10 = 3) by decide, show ¬ (10 = 4) by decide, show ¬ (10 = 5) by decide, show ¬ (10 = 6) by decide, show ¬ (10 = 7) by decide, show ¬ (10 = 8) by decide, show ¬ (10 = 9) by decide, if_false]
  refine ⟨_, rfl, ?_⟩
  refine ⟨fun i hi => ?_, fun h h1 h2 => ?_, fun h h1 h2 => ?_, fun k hk => ?_, fun j hj => ?_⟩
  · have c := C.1 i hi
    have hi4 : i = 0 ∨ i = 1 ∨ i = 2 ∨ i = 3 := by omega
    rcases hi4 with rfl | rfl | rfl | rfl <;> simpa [up_app] using c
  · have c := C.2.1 h h1 h2
    simp [up_app, upR_app, b1 h (by omega), c]
  · have c := C.2.2.1 h h1 h2
    simp [up_app, upR_app, b2 h (by omega), c]
  · have c := C.2.2.2.1 k hk
    simp [up_app, upR_app, b3 k hk, b4 k hk, b5 k hk, b6 k hk, c]
  · have c := C.2.2.2.2 j hj
    simp [up_app, upR_app, b7 j hj, b8 j hj, b9 j hj, b10 j hj, c]
theorem rem5_nI {a : Nat} (h : a < 2 ^ 31) : rem5 (nI a) = nI (a % 5) := by
  unfold rem5
  rw [e5, nI_div h (by decide) (by decide), nI_rem h (by decide) (by decide)]
/-- the history: z states, the oldest first, in the class's ring -/
def Hst (N : Nat) (ζ : Row) (η : Nat → Blk) (z : Nat) (H : Nat → NB) : Prop :=
  z ≤ 5 ∧ ζ 1 = nI z ∧ (∃ o, o < 5 ∧ ζ 0 = nI o ∧ ∀ i, i < z → Cls (η ((o + i) % 5)) (H i)) ∧ ∀ i, i < z → WF N (H i)
def pushH (z : Nat) (H : Nat → NB) (G : NB) : Nat → NB := if z < 5 then fun i => if i = z then G else H i else fun i => if i = 4 then G else H (i + 1)
theorem pushH_5 (H : Nat → NB) (G : NB) (i : Nat) : pushH 5 H G i = if i = 4 then G else H (i + 1) := by
  unfold pushH
  rw [if_neg (by decide)]
theorem pushH_lt {z : Nat} (h : z < 5) (H : Nat → NB) (G : NB) (i : Nat) : pushH z H G i = if i = z then G else H i := by
  unfold pushH
  rw [if_pos h]
theorem upN_app (η : Nat → Blk) (j : Nat) (σ : Blk) (i : Nat) : upN η j σ i = if i = j then σ else η i := by
  unfold upN
  by_cases h : i = j
  · subst h; simp
  · rw [if_neg h]
    have : Nat.beq i j = false := by
      cases hh : Nat.beq i j with
      | false => rfl
      | true => exact absurd (Nat.eq_of_beq_eq_true hh) h
    rw [this]; rfl
/-- the class keeps a state -/
theorem cl_keep {ζ : Row} {η : Nat → Blk} {σ : Blk} {G : NB} {z o : Nat} {H : Nat → NB} (C : Cls σ G) (hz : z ≤ 5) (h1 : ζ 1 = nI z) (ho : o < 5) (h0 : ζ 0 = nI o) (hη : ∀ i, i < z → Cls (η ((o + i) % 5)) (H i)) :
    ∃ ζ' η' o', f_X2_keep ζ η σ = some (ζ', η') ∧ ζ' 1 = nI (min (z + 1) 5) ∧ o' < 5 ∧ ζ' 0 = nI o' ∧ ∀ i, i < min (z + 1) 5 → Cls (η' ((o' + i) % 5)) (pushH z H G i) := by
  obtain ⟨k, ek, Ck⟩ := cl_copy (σ := η ((o + z) % 5)) C
  have hr : rem5 (ζ 0 + ζ 1) = nI ((o + z) % 5) := by rw [h0, h1, nI_add, rem5_nI (by omega)]
  have hlt : (o + z) % 5 < 5 := Nat.mod_lt _ (by decide)
  unfold f_X2_keep
  rw [hr, ib_nI hlt (by decide), if_pos rfl, nI_clamp (by omega), ek, Option.bind_some, h1, e5]
  by_cases c : z = 5
  · subst c
    rw [if_pos (by decide), h0, e1, nI_add, rem5_nI (by omega)]
    refine ⟨_, _, (o + 1) % 5, rfl, ?_, Nat.mod_lt _ (by decide), by rw [upd_app, if_pos rfl], fun i hi => ?_⟩
    · rw [upd_app, if_neg (by decide), h1]; rfl
    · rw [pushH_5, upN_app]
      have hi5 : i < 5 := hi
      by_cases d : i = 4
      · rw [if_pos (show ((o + 1) % 5 + i) % 5 = (o + 5) % 5 by subst d; omega), if_pos d]; exact Ck
      · rw [if_neg (show ¬ ((o + 1) % 5 + i) % 5 = (o + 5) % 5 by omega), if_neg d]
        have := hη (i + 1) (by omega)
        rw [show ((o + 1) % 5 + i) % 5 = (o + (i + 1)) % 5 by omega]
        exact this
  · rw [if_neg (nI_ge (by omega) (by decide)), nI_1]
    refine ⟨_, _, o, rfl, ?_, ho, ?_, fun i hi => ?_⟩
    · rw [upd_app, if_pos rfl, Nat.min_eq_left (by omega)]
    · rw [upd_app, if_neg (by decide), h0]
    · rw [pushH_lt (by omega), upN_app]
      by_cases d : i = z
      · rw [if_pos (show (o + i) % 5 = (o + z) % 5 by rw [d]), if_pos d]; exact Ck
      · rw [if_neg (show ¬ (o + i) % 5 = (o + z) % 5 by omega), if_neg d]
        exact hη i (by omega)
