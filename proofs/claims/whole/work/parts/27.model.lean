/-! the reference's small methods over the picture -/
theorem e7 : (7 : Int32) = nI 7 := by decide
def Same (b : Nat) (μ μ' : Blk) : Prop := (∀ p, p ≠ 1 → μ' p = μ p) ∧ ∀ j, j < b ∨ b + 256 ≤ j → μ' 1 j = μ 1 j
theorem Same.rf {b : Nat} {μ : Blk} : Same b μ μ := ⟨fun _ _ => rfl, fun _ _ => rfl⟩
theorem Same.tr {b : Nat} {μ μ1 μ2 : Blk} (h1 : Same b μ μ1) (h2 : Same b μ1 μ2) : Same b μ μ2 := ⟨fun p hp => (h2.1 p hp).trans (h1.1 p hp), fun j hj => (h2.2 j hj).trans (h1.2 j hj)⟩
theorem Same.up {b : Nat} {μ : Blk} {i : Nat} {v : Int32} (h1 : b ≤ i) (h2 : i < b + 256) : Same b μ (upR μ 1 (upd (μ 1) i v)) := by
  refine ⟨fun p hp => ?_, fun j hj => ?_⟩
  · rw [upR_app, if_neg hp]
  · rw [upR_app, if_pos rfl, pk_un (by omega)]
theorem Mod.cong {s : Row} {b : Nat} {G G' : NB} (M : Mod s b G) (h : ∀ p j, G p j = G' p j) : Mod s b G' := by
  have e : G = G' := funext fun p => funext fun j => h p j
  rw [← e]; exact M
theorem mo_place (b k : Nat) : f_X6_place (nI b) (nI k) = nI (b + 16 + 20 * k) := by
  unfold f_X6_place
  simp only [e16, e20, nI_mul, nI_add]
theorem mo_from {μ : Blk} {b : Nat} {G : NB} (M : Mod (μ 1) b G) (hb' : b ≤ 1792) {k : Nat} (hk : k < G 0 0) (h12 : k < 12) (ff : Bool) : f_X6_from μ (nI (b + 16 + 20 * k)) ff = some (nI (hb G k ff)) := by
  have m := M.2.2.1 k hk
  unfold f_X6_from hb
  simp only [e1, nI_add]
  simp (disch := omega) only [ib_nI, nI_clamp, if_true, m]
  cases ff <;> rfl
theorem mo_to {μ : Blk} {b : Nat} {G : NB} (M : Mod (μ 1) b G) (hb' : b ≤ 1792) {k : Nat} (hk : k < G 0 0) (h12 : k < 12) (ff : Bool) : f_X6_to μ (nI (b + 16 + 20 * k)) ff = some (nI (ha G k ff)) := by
  have m := M.2.2.1 k hk
  unfold f_X6_to ha
  simp only [e1, nI_add]
  simp (disch := omega) only [ib_nI, nI_clamp, if_true, m]
  cases ff <;> rfl
def bar (G : NB) (k : Nat) (ff : Bool) : Nat := if 0 < G 6 k then 1 else if gos G k ff = true then 0 else 2
theorem mo_barred {μ : Blk} {b : Nat} {G : NB} {N : Nat} (M : Mod (μ 1) b G) (Wf : WF N G) (hb' : b ≤ 1792) {k : Nat} (hk : k < G 0 0) (h12 : k < 12) (ff : Bool) : f_X6_barred μ (nI (b + 16 + 20 * k)) ff = some (nI (bar G k ff)) := by
  have m := M.2.2.1 k hk
  have w := Wf.2.2.2.1 k h12
  unfold f_X6_barred bar gos
  simp only [e0, e1, e2, e3, nI_add]
  simp (disch := omega) only [ib_nI, nI_clamp, if_true, m, nI_eq, nI_leI]
  by_cases a : G 6 k ≤ 0
  · have a' : ¬ 0 < G 6 k := by omega
    by_cases c : G 5 k = 0
    · simp [a, a', c]
    · cases ff
      · by_cases d : G 5 k = 2 <;> simp [a, a', c, d]
      · by_cases d : G 5 k = 1 <;> simp [a, a', c, d]
  · have a' : 0 < G 6 k := by omega
    simp [a, a']
theorem mo_counted {μ : Blk} {b : Nat} {G : NB} (M : Mod (μ 1) b G) (hb' : b ≤ 1792) {k c : Nat} (hk : k < G 0 0) (h12 : k < 12) (hc : c < 4) : f_X6_counted μ (nI (b + 16 + 20 * k)) (nI c) = some (nI (G 7 (k * 4 + c))) := by
  have m := M.2.2.2 k c hk hc
  unfold f_X6_counted
  simp only [e4, nI_mul, nI_add]
  simp (disch := omega) only [ib_nI, nI_clamp, if_true, m]
theorem mo_gap {μ : Blk} {G : NB} {N : Nat} (M : Mod (μ 1) 0 G) (Wf : WF N G) {k : Nat} (hk : k < G 0 0) (h12 : k < 12) : f_X6_gap μ (nI k) = some (nI (gap G k)) := by
  have w0 := (Wf.2.2.2.2.2.1 (k * 4 + 0) (by omega)).1
  have w1 := (Wf.2.2.2.2.2.1 (k * 4 + 1) (by omega)).1
  have w2 := (Wf.2.2.2.2.2.1 (k * 4 + 2) (by omega)).1
  have w3 := (Wf.2.2.2.2.2.1 (k * 4 + 3) (by omega)).1
  have wN := Wf.1
  unfold f_X6_gap lt
  simp only [e0, e1, e2, e3, mo_place, mo_counted M (Nat.zero_le _) hk h12 (show 0 < 4 by decide), mo_counted M (Nat.zero_le _) hk h12 (show 1 < 4 by decide), mo_counted M (Nat.zero_le _) hk h12 (show 2 < 4 by decide), mo_counted M (Nat.zero_le _) hk h12 (show 3 < 4 by decide), Option.bind_some]
  rw [nI_apart (by omega) (by omega), nI_apart (by omega) (by omega), nI_add]
  rfl
theorem mo_why {μ : Blk} {b : Nat} {G : NB} {N : Nat} (M : Mod (μ 1) b G) (Wf : WF N G) (hb' : b ≤ 1792) {k n : Nat} (hk : k < G 0 0) (h12 : k < 12) (hn : n ≤ 99) (ff : Bool) : f_X6_why μ (nI b) (nI k) ff (nI n) = some (nI (why G k ff n)) := by
  obtain ⟨h1, h2⟩ := hb_lt Wf h12 ff
  have hpb : hb G k ff ≠ 0 → G 2 (hb G k ff) ≤ 500 ∧ μ 1 (b + 10 + hb G k ff) = nI (G 2 (hb G k ff)) := fun z => by
    have := Wf.2.2.1 _ (by omega) h1
    exact ⟨by omega, (M.2.1 _ (by omega) h1).2⟩
  have hpa : ha G k ff ≠ 0 → G 1 (ha G k ff) ≤ 500 ∧ G 2 (ha G k ff) ≤ G 1 (ha G k ff) ∧ μ 1 (b + 4 + ha G k ff) = nI (G 1 (ha G k ff)) ∧ μ 1 (b + 10 + ha G k ff) = nI (G 2 (ha G k ff)) := fun z => by
    have := Wf.2.2.1 _ (by omega) h2
    exact ⟨by omega, by omega, (M.2.1 _ (by omega) h2).1, (M.2.1 _ (by omega) h2).2⟩
  unfold f_X6_why lt why
  simp only [mo_place, mo_from M hb' hk h12, mo_to M hb' hk h12, mo_barred M Wf hb' hk h12, Option.bind_some]
  unfold bar
  simp only [e0, e4, e10, nI_add]
  simp (disch := omega) only [ib_nI, nI_clamp, if_true, nI_eq]
  by_cases a : 0 < G 6 k
  · simp only [a, if_true]
    rw [if_neg (show ¬ nI 1 ≤ nI 0 by decide)]
  · simp only [a, if_false]
    cases gg : gos G k ff with
    | false => simp [e0, nI_leI]
    | true =>
      simp only [if_true, Bool.true_eq_false, if_false]
      rw [if_pos (by decide)]
      by_cases x : hb G k ff = 0
      · by_cases y : ha G k ff = 0
        · simp [x, y]
        · have q := hpa y
          simp only [x, y, if_true, if_false, ne_eq, not_true, not_false_eq_true, false_and, true_and, q.2.2.1, q.2.2.2, nI_add]
          simp (disch := omega) only [nI_leI]
          repeat' split
          all_goals first | rfl | omega
      · have p := hpb x
        by_cases y : ha G k ff = 0
        · simp only [x, y, if_true, if_false, ne_eq, not_true, not_false_eq_true, false_and, true_and, p.2]
          simp (disch := omega) only [nI_leI]
          repeat' split
          all_goals first | rfl | omega
        · have q := hpa y
          simp only [x, y, if_true, if_false, ne_eq, not_true, not_false_eq_true, false_and, true_and, p.2, q.2.2.1, q.2.2.2, nI_add]
          simp (disch := omega) only [nI_leI]
          repeat' split
          all_goals first | rfl | omega
theorem mo_most {μ : Blk} {b : Nat} {G : NB} {N : Nat} (M : Mod (μ 1) b G) (Wf : WF N G) (hb' : b ≤ 1792) {k bd : Nat} (hk : k < G 0 0) (h12 : k < 12) (hn : bd ≤ 99) (ff : Bool) : f_X6_atMost μ (nI b) (nI k) ff (nI bd) = some (nI (most G k ff bd)) := by
  obtain ⟨h1, h2⟩ := hb_lt Wf h12 ff
  have hpb : hb G k ff ≠ 0 → G 2 (hb G k ff) ≤ 500 ∧ μ 1 (b + 10 + hb G k ff) = nI (G 2 (hb G k ff)) := fun z => by
    have := Wf.2.2.1 _ (by omega) h1
    exact ⟨by omega, (M.2.1 _ (by omega) h1).2⟩
  have hpa : ha G k ff ≠ 0 → G 1 (ha G k ff) ≤ 500 ∧ G 2 (ha G k ff) ≤ G 1 (ha G k ff) ∧ μ 1 (b + 4 + ha G k ff) = nI (G 1 (ha G k ff)) ∧ μ 1 (b + 10 + ha G k ff) = nI (G 2 (ha G k ff)) := fun z => by
    have := Wf.2.2.1 _ (by omega) h2
    exact ⟨by omega, by omega, (M.2.1 _ (by omega) h2).1, (M.2.1 _ (by omega) h2).2⟩
  unfold f_X6_atMost lt most opn
  simp only [mo_place, mo_from M hb' hk h12, mo_to M hb' hk h12, mo_barred M Wf hb' hk h12, Option.bind_some]
  unfold bar
  simp only [e0, e4, e10, nI_add]
  simp (disch := omega) only [ib_nI, nI_clamp, if_true, nI_eq]
  have hop : (¬ (0 < G 6 k) ∧ gos G k ff = true) ∨ ((if 0 < G 6 k then 1 else if gos G k ff = true then 0 else 2) ≠ 0 ∧ (if 0 < G 6 k then 1 else if gos G k ff = true then 0 else 2) ≤ 2 ∧ (decide (G 6 k = 0) && gos G k ff) = false) := by
    by_cases a : 0 < G 6 k
    · right
      have : ¬ G 6 k = 0 := by omega
      simp [a, this]
    · cases gg : gos G k ff with
      | true => left; exact ⟨a, rfl⟩
      | false => right; simp [a]
  rcases hop with ⟨a, gg⟩ | ⟨z1, z2, z3⟩
  · have a0 : G 6 k = 0 := by omega
    simp only [a, gg, a0, if_false, if_true, decide_true, Bool.and_self, Bool.true_eq_false, Nat.lt_irrefl]
    rw [if_pos (show nI 0 ≤ nI 0 by decide)]
    by_cases x : hb G k ff = 0
    · by_cases y : ha G k ff = 0
      · simp [x, y]
      · have q := hpa y
        simp only [x, y, if_true, if_false, q.2.2.1, q.2.2.2]
        simp (disch := omega) only [nI_sub, nI_leI]
        repeat' split
        all_goals first | (congr 2; omega) | omega
    · have p := hpb x
      by_cases y : ha G k ff = 0
      · simp only [x, y, if_true, if_false, p.2]
        simp (disch := omega) only [nI_leI]
        repeat' split
        all_goals first | (congr 2; omega) | omega
      · have q := hpa y
        simp only [x, y, if_true, if_false, p.2, q.2.2.1, q.2.2.2]
        simp (disch := omega) only [nI_sub, nI_leI]
        repeat' split
        all_goals first | (congr 2; omega) | omega
  · simp only [z3, if_true]
    generalize (if 0 < G 6 k then 1 else if gos G k ff = true then 0 else 2) = bb at z1 z2 ⊢
    rw [if_neg (nI_ge (show 0 < bb by omega) (by omega))]
    by_cases x : hb G k ff = 0
    · by_cases y : ha G k ff = 0
      · simp [x, y]
      · have q := hpa y
        simp only [x, y, if_true, if_false, q.2.2.1, q.2.2.2]
        simp (disch := omega) only [nI_sub, nI_leI]
        repeat' split
        all_goals first | rfl | omega
    · have p := hpb x
      by_cases y : ha G k ff = 0
      · simp only [x, y, if_true, if_false, p.2]
        simp (disch := omega) only [nI_leI]
        repeat' split
        all_goals first | rfl | omega
      · have q := hpa y
        simp only [x, y, if_true, if_false, p.2, q.2.2.1, q.2.2.2]
        simp (disch := omega) only [nI_sub, nI_leI]
        repeat' split
        all_goals first | rfl | omega
theorem mo_cnt_up {s : Row} {b : Nat} {G : NB} (M : Mod s b G) {k c : Nat} (h12 : k < 12) (hc : c < 4) (x y z : Nat) : Mod (upd (upd (upd s (b + 16 + 20 * k + 4 + 4 * c + 2) (nI x)) (b + 16 + 20 * k + 4 + 4 * c + 3) (nI y)) (b + 16 + 20 * k + 4 + 4 * c) (nI z)) b (setN (setN (setN G 10 (k * 4 + c) y) 9 (k * 4 + c) x) 7 (k * 4 + c) z) := by
  refine ⟨?_, fun h h1 h2 => ?_, fun k' hk => ?_, fun k' c' hk hc' => ?_⟩
  · simp (disch := omega) only [pk_un]
    exact M.1
  · simp (disch := omega) only [pk_un]
    exact M.2.1 h h1 h2
  · have hk' : k' < G 0 0 := hk
    simp (disch := omega) only [pk_un]
    exact M.2.2.1 k' hk'
  · have hk' : k' < G 0 0 := hk
    have m := M.2.2.2 k' c' hk' hc'
    by_cases e : k' = k ∧ c' = c
    · obtain ⟨rfl, rfl⟩ := e
      simp (disch := omega) only [pk_un, pk_us]
      simp only [setN_app]
      simp only [show ¬ (7 = 10) by decide, show ¬ (7 = 9) by decide, show ¬ (8 = 10) by decide, show ¬ (8 = 9) by decide, show ¬ (8 = 7) by decide, show ¬ (9 = 10) by decide, show ¬ (9 = 7) by decide, show ¬ (10 = 7) by decide, show ¬ (10 = 9) by decide, false_and, if_false, and_self, if_true, true_and, and_true]
      exact m.2.1
    · simp (disch := omega) only [pk_un]
      have ne : ¬ k' * 4 + c' = k * 4 + c := fun q => e ⟨by omega, by omega⟩
      simp only [setN_app, ne, and_false, if_false]
      exact m
theorem mo_counts {μ : Blk} {b : Nat} {G : NB} {N : Nat} (M : Mod (μ 1) b G) (Wf : WF N G) (hb' : b ≤ 1792) {k c n : Nat} (hk : k < G 0 0) (h12 : k < 12) (hc : c < 4) (hn : n ≤ 99) : ∃ μ', f_X6_counts μ (nI (b + 16 + 20 * k)) (nI c) (nI n) = some μ' ∧ Mod (μ' 1) b (see G (k * 4 + c) n) ∧ Same b μ μ' := by
  have m := M.2.2.2 k c hk hc
  have w := Wf.2.2.2.2.2.1 (k * 4 + c) (by omega)
  have wN := Wf.1
  have up := mo_cnt_up M (k := k) (c := c) h12 hc (G 9 (k * 4 + c) + n) (G 10 (k * 4 + c) + mis G (k * 4 + c) n) (G 7 (k * 4 + c) + (n - mis G (k * 4 + c) n))
  have hml := mis_le (G := G) (i := k * 4 + c) (n := n)
  unfold f_X6_counts lt
  simp only [e0, e1, e2, e3, e4, nI_mul, nI_add]
  simp (disch := omega) only [ib_nI, nI_clamp, if_true, m, nI_eq, upR_app, pk_un]
  by_cases z : G 8 (k * 4 + c) = 0
  · have hm : mis G (k * 4 + c) n = 0 := by unfold mis; rw [if_pos z]
    rw [if_pos z]
    rw [hm] at up
    simp (disch := omega) only [nI_add, nI_sub]
    refine ⟨_, rfl, ?_, ?_⟩
    · simp only [upR_app, if_true]
      unfold see
      rw [hm]
      exact up
    · exact (Same.up (by omega) (by omega)).tr ((Same.up (by omega) (by omega)).tr (Same.up (by omega) (by omega)))
  · have zp : 0 < G 8 (k * 4 + c) := by omega
    have hm : mis G (k * 4 + c) n = (G 9 (k * 4 + c) + n) / G 8 (k * 4 + c) - G 9 (k * 4 + c) / G 8 (k * 4 + c) := by unfold mis; rw [if_neg z]
    have hdl : G 9 (k * 4 + c) / G 8 (k * 4 + c) ≤ (G 9 (k * 4 + c) + n) / G 8 (k * 4 + c) := Nat.div_le_div_right (Nat.le_add_right _ _)
    rw [hm] at up hml
    simp only [z, if_false, not_false_eq_true, if_true]
    simp (disch := omega) only [nI_add, nI_div, nI_sub]
    refine ⟨_, rfl, ?_, ?_⟩
    · simp only [upR_app, if_true]
      unfold see
      rw [hm]
      exact up
    · exact (Same.up (by omega) (by omega)).tr ((Same.up (by omega) (by omega)).tr (Same.up (by omega) (by omega)))
theorem mo_ppl_0 {s : Row} {b : Nat} {G : NB} (M : Mod s b G) (v : Int32) : Mod (upd s (b + 10 + 0) v) b G := by
  refine ⟨?_, fun h h1 h2 => ?_, fun k' hk => ?_, fun k' c' hk hc' => ?_⟩
  · simp (disch := omega) only [pk_un]
    exact M.1
  · simp (disch := omega) only [pk_un]
    exact M.2.1 h h1 h2
  · simp (disch := omega) only [pk_un]
    exact M.2.2.1 k' hk
  · simp (disch := omega) only [pk_un]
    exact M.2.2.2 k' c' hk hc'
theorem mo_ppl_h {s : Row} {b : Nat} {G : NB} (M : Mod s b G) {h : Nat} (h1 : h ≠ 0) (h6 : h < 6) (x : Nat) : Mod (upd s (b + 10 + h) (nI x)) b (setN G 2 h x) := by
  refine ⟨?_, fun h' h1 h2 => ?_, fun k' hk => ?_, fun k' c' hk hc' => ?_⟩
  · simp (disch := omega) only [pk_un]
    exact M.1
  · have m := M.2.1 h' h1 h2
    by_cases e : h' = h
    · subst e
      simp (disch := omega) only [pk_un, pk_us]
      simp only [setN_app]
      exact ⟨m.1, by simp⟩
    · simp (disch := omega) only [pk_un]
      simp only [setN_app, e, and_false, if_false]
      exact m
  · simp (disch := omega) only [pk_un]
    exact M.2.2.1 k' hk
  · simp (disch := omega) only [pk_un]
    exact M.2.2.2 k' c' hk hc'
theorem mo_tail {μ : Blk} {b : Nat} {G : NB} {N : Nat} (M : Mod (μ 1) b G) (Wf : WF N G) (hN : N + 100 ≤ 536870912) (hb' : b ≤ 1792) {k n : Nat} (hk : k < G 0 0) (hn : n ≤ 99) (ff : Bool) :
    ∃ μ', (if ff = true then (f_X6_counts μ (nI (b + 16 + 20 * k)) (nI 0) (nI n)).bind fun q91 => (if ff = true then (f_X6_counts q91 (nI (b + 16 + 20 * k)) (nI 3) (nI n)).bind fun q108 => some q108 else (f_X6_counts q91 (nI (b + 16 + 20 * k)) (nI 1) (nI n)).bind fun q108 => some q108) else (f_X6_counts μ (nI (b + 16 + 20 * k)) (nI 2) (nI n)).bind fun q91 => (if ff = true then (f_X6_counts q91 (nI (b + 16 + 20 * k)) (nI 3) (nI n)).bind fun q108 => some q108 else (f_X6_counts q91 (nI (b + 16 + 20 * k)) (nI 1) (nI n)).bind fun q108 => some q108)) = some μ' ∧ Mod (μ' 1) b (see (see G (k * 4 + cond ff 0 2) n) (k * 4 + cond ff 3 1) n) ∧ Same b μ μ' := by
  have h12 : k < 12 := by have := Wf.2.1.1; omega
  have key : ∀ c1 c2 : Nat, c1 < 4 → c2 < 4 → ∃ μ', ((f_X6_counts μ (nI (b + 16 + 20 * k)) (nI c1) (nI n)).bind fun q91 => (f_X6_counts q91 (nI (b + 16 + 20 * k)) (nI c2) (nI n)).bind fun q108 => some q108) = some μ' ∧ Mod (μ' 1) b (see (see G (k * 4 + c1) n) (k * 4 + c2) n) ∧ Same b μ μ' := by
    intro c1 c2 h1 h2
    obtain ⟨μ1, a1, M1, S1⟩ := mo_counts M Wf hb' (c := c1) hk h12 h1 hn
    have w := wf_see (n := n) (M := N + n) Wf (i := k * 4 + c1) (by omega) (Nat.le_refl _) (by omega)
    obtain ⟨μ2, a2, M2, S2⟩ := mo_counts M1 w hb' (c := c2) (by rw [see_keep (by decide)]; exact hk) h12 h2 hn
    exact ⟨μ2, by rw [a1, Option.bind_some, a2]; rfl, M2, S1.tr S2⟩
  cases ff
  · simpa using key 2 1 (by decide) (by decide)
  · simpa using key 0 3 (by decide) (by decide)
theorem mo_passes {μ : Blk} {b : Nat} {G : NB} {N : Nat} (M : Mod (μ 1) b G) (Wf : WF N G) (hN : N + 100 ≤ 536870912) (hb' : b ≤ 1792) {k n : Nat} (hk : k < G 0 0) (hn : n ≤ 99) {ff : Bool} (hc : can G k ff n) : ∃ μ', f_X6_passes μ (nI b) (nI k) ff (nI n) = some μ' ∧ Mod (μ' 1) b (pas G k ff n) ∧ Same b μ μ' := by
  have h12 : k < 12 := by have := Wf.2.1.1; omega
  obtain ⟨h1, h2⟩ := hb_lt Wf h12 ff
  obtain ⟨w1, w2⟩ := wf_mv Wf hk hc
  have hne := ne_ha Wf hk ff
  have hm : mvI (mvO G (hb G k ff) n) (ha G k ff) n 0 0 = G 0 0 := by simp [mvI_app, mvO_app]
  unfold f_X6_passes lt pas
  simp only [mo_place, mo_from M hb' hk h12, mo_to M hb' hk h12, Option.bind_some]
  simp only [e0, e1, e2, e3, e10, nI_add]
  simp (disch := omega) only [ib_nI, nI_clamp, if_true, nI_eq, upR_app]
  by_cases x : hb G k ff = 0
  · have mo : mvO G (hb G k ff) n = G := by unfold mvO; rw [if_pos x]
    rw [if_pos x]
    by_cases y : ha G k ff = 0
    · have mi : mvI (mvO G (hb G k ff) n) (ha G k ff) n = G := by unfold mvI; rw [if_pos y, mo]
      rw [if_pos y]
      exact absurd (x.trans y.symm) hne
    · rw [if_neg y]
      have mi : mvI (mvO G (hb G k ff) n) (ha G k ff) n = setN G 2 (ha G k ff) (G 2 (ha G k ff) + n) := by unfold mvI; rw [if_neg y, mo]
      have q := (M.2.1 _ (by omega) h2).2
      simp (disch := omega) only [pk_un, q, nI_add]
      rw [x]
      have M2 : Mod ((upR (upR μ 1 (upd (μ 1) (b + 10 + 0) (μ 1 (b + 10 + 0) - nI 0))) 1 (upd (upd (μ 1) (b + 10 + 0) (μ 1 (b + 10 + 0) - nI 0)) (b + 10 + ha G k ff) (nI (G 2 (ha G k ff) + n)))) 1) b (mvI (mvO G (hb G k ff) n) (ha G k ff) n) := by
        rw [upR_app, if_pos rfl, mi]
        exact mo_ppl_h (mo_ppl_0 M _) y h2 _
      obtain ⟨μ', a, b1, b2⟩ := mo_tail M2 w2 hN hb' (by rw [hm]; exact hk) hn ff
      rw [x] at b1
      refine ⟨μ', a, b1, Same.tr (Same.tr (Same.up (i := b + 10 + 0) (v := μ 1 (b + 10 + 0) - nI 0) (by omega) (by omega)) ?_) b2⟩
      have s2 := Same.up (b := b) (μ := upR μ 1 (upd (μ 1) (b + 10 + 0) (μ 1 (b + 10 + 0) - nI 0))) (i := b + 10 + ha G k ff) (v := nI (G 2 (ha G k ff) + n)) (by omega) (by omega)
      simp only [upR_app, if_true] at s2
      exact s2
  · have p := (M.2.1 _ (by omega) h1).2
    have mo : mvO G (hb G k ff) n = setN G 2 (hb G k ff) (G 2 (hb G k ff) - n) := by unfold mvO; rw [if_neg x]
    have hnp := hc.1 x
    rw [if_neg x]
    have M1 : Mod (upd (μ 1) (b + 10 + hb G k ff) (nI (G 2 (hb G k ff) - n))) b (mvO G (hb G k ff) n) := by
      rw [mo]; exact mo_ppl_h M x h1 _
    rw [p, nI_sub hnp]
    by_cases y : ha G k ff = 0
    · rw [if_pos y]
      have mi : mvI (mvO G (hb G k ff) n) (ha G k ff) n = mvO G (hb G k ff) n := by unfold mvI; rw [if_pos y]
      rw [y]
      have M2 : Mod ((upR (upR μ 1 (upd (μ 1) (b + 10 + hb G k ff) (nI (G 2 (hb G k ff) - n)))) 1 (upd (upd (μ 1) (b + 10 + hb G k ff) (nI (G 2 (hb G k ff) - n))) (b + 10 + 0) (upd (μ 1) (b + 10 + hb G k ff) (nI (G 2 (hb G k ff) - n)) (b + 10 + 0) + nI 0))) 1) b (mvI (mvO G (hb G k ff) n) (ha G k ff) n) := by
        rw [upR_app, if_pos rfl, mi]
        exact mo_ppl_0 M1 _
      obtain ⟨μ', a, b1, b2⟩ := mo_tail M2 w2 hN hb' (by rw [hm]; exact hk) hn ff
      rw [y] at b1
      refine ⟨μ', a, b1, Same.tr (Same.tr (Same.up (i := b + 10 + hb G k ff) (v := nI (G 2 (hb G k ff) - n)) (by omega) (by omega)) ?_) b2⟩
      have s2 := Same.up (b := b) (μ := upR μ 1 (upd (μ 1) (b + 10 + hb G k ff) (nI (G 2 (hb G k ff) - n)))) (i := b + 10 + 0) (v := upd (μ 1) (b + 10 + hb G k ff) (nI (G 2 (hb G k ff) - n)) (b + 10 + 0) + nI 0) (by omega) (by omega)
      simp only [upR_app, if_true] at s2
      exact s2
    · rw [if_neg y]
      have q := (M.2.1 _ (by omega) h2).2
      have mi : mvI (mvO G (hb G k ff) n) (ha G k ff) n = setN (mvO G (hb G k ff) n) 2 (ha G k ff) (G 2 (ha G k ff) + n) := by
        unfold mvI; rw [if_neg y, mvO_app, if_neg (fun c => hne c.2.2.symm)]
      rw [pk_un (f := μ 1) (show b + 10 + ha G k ff ≠ b + 10 + hb G k ff by omega), q, nI_add]
      have M2 : Mod ((upR (upR μ 1 (upd (μ 1) (b + 10 + hb G k ff) (nI (G 2 (hb G k ff) - n)))) 1 (upd (upd (μ 1) (b + 10 + hb G k ff) (nI (G 2 (hb G k ff) - n))) (b + 10 + ha G k ff) (nI (G 2 (ha G k ff) + n)))) 1) b (mvI (mvO G (hb G k ff) n) (ha G k ff) n) := by
        rw [upR_app, if_pos rfl, mi]
        exact mo_ppl_h M1 y h2 _
      obtain ⟨μ', a, b1, b2⟩ := mo_tail M2 w2 hN hb' (by rw [hm]; exact hk) hn ff
      refine ⟨μ', a, b1, Same.tr (Same.tr (Same.up (i := b + 10 + hb G k ff) (v := nI (G 2 (hb G k ff) - n)) (by omega) (by omega)) ?_) b2⟩
      have s2 := Same.up (b := b) (μ := upR μ 1 (upd (μ 1) (b + 10 + hb G k ff) (nI (G 2 (hb G k ff) - n)))) (i := b + 10 + ha G k ff) (v := nI (G 2 (ha G k ff) + n)) (by omega) (by omega)
      simp only [upR_app, if_true] at s2
      exact s2
