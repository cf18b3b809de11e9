/-! what hangs together, in natural numbers -/
def pa (G : NB) : Nat → Nat
  | 0 => 0
  | j + 1 => pa G j + G 2 (j + 1)
theorem pa5 (G : NB) : pa G 5 = ppl G := by
  show ((((0 + G 2 1) + G 2 2) + G 2 3) + G 2 4) + G 2 5 = G 2 1 + G 2 2 + G 2 3 + G 2 4 + G 2 5
  omega
def ow (G : NB) : Nat → Int32
  | 0 => nI 0
  | j + 1 => ow G j + tlO G (j + 1) (G 0 0)
def fo (G : NB) : Nat → Int32
  | 0 => nI 0
  | j + 1 => fo G j + tlF G (j + 1) (G 0 0)
theorem ct4 (G : NB) : ctI G 4 = ow G 5 := by
  show 0 + tlO G 1 (G 0 0) + tlO G 2 (G 0 0) + tlO G 3 (G 0 0) + tlO G 4 (G 0 0) + tlO G 5 (G 0 0) = nI 0 + tlO G 1 (G 0 0) + tlO G 2 (G 0 0) + tlO G 3 (G 0 0) + tlO G 4 (G 0 0) + tlO G 5 (G 0 0)
  rw [e0]
theorem ct5 (G : NB) : ctI G 5 = fo G 5 := by
  show 0 + tlF G 1 (G 0 0) + tlF G 2 (G 0 0) + tlF G 3 (G 0 0) + tlF G 4 (G 0 0) + tlF G 5 (G 0 0) = nI 0 + tlF G 1 (G 0 0) + tlF G 2 (G 0 0) + tlF G 3 (G 0 0) + tlF G 4 (G 0 0) + tlF G 5 (G 0 0)
  rw [e0]
def abU (G : NB) : Nat → Bool := fun k => decide (0 < G 6 k)
def abG (G : NB) : Nat → Bool := fun k => decide (0 < gap G k)
def abS (G : NB) : Nat → Bool := fun i => decide (0 < G 8 i)
theorem abS_all {G : NB} {N : Nat} (Wf : WF N G) : ∀ d, G 0 0 * 4 + d ≤ 48 → cnt (abS G) (G 0 0 * 4 + d) = cnt (abS G) (G 0 0 * 4) := by
  intro d
  induction d with
  | zero => intro _; rfl
  | succ d ih =>
    intro h
    have w := (Wf.2.2.2.2.2.2.2 (G 0 0 * 4 + d) (by omega) (by omega)).2.1
    rw [← Nat.add_assoc, cnt_s, ih (by omega), if_neg, Nat.add_zero]
    show ¬ decide (0 < G 8 (G 0 0 * 4 + d)) = true
    rw [w]; decide
theorem ct7 {G : NB} {N : Nat} (Wf : WF N G) : ctI G 7 = nI (cnt (abS G) (G 0 0 * 4)) := by
  have hm := Wf.2.1.1
  have h := abS_all Wf (48 - G 0 0 * 4) (by omega)
  rw [show G 0 0 * 4 + (48 - G 0 0 * 4) = 48 by omega] at h
  rw [← h]
  rfl
theorem dst_pos {G : NB} {h : Nat} (h1 : 1 ≤ h) (h6 : h < 6) : 0 < dst G h := by
  by_cases c : dst G h = 0
  · exfalso
    rcases dst_is G h6 with q | q
    · rw [c] at q
      have : h = 0 := q.2.1
      omega
    · omega
  · omega
theorem most_why0 {G : NB} {k : Nat} {ff : Bool} (h0 : 0 < most G k ff 99) : why G k ff (most G k ff 99) = 0 := by
  revert h0
  unfold why most opn
  by_cases a : G 6 k = 0
  · cases gg : gos G k ff with
    | false => simp [a]
    | true =>
      have na : ¬ 0 < G 6 k := by omega
      simp only [a, decide_true, Bool.true_and, Bool.true_eq_false, if_false, Nat.lt_irrefl]
      intro h0
      by_cases b : hb G k ff = 0 <;> by_cases c : ha G k ff = 0 <;> simp only [b, c, if_true, if_false, ne_eq, not_true, not_false_eq_true, false_and, true_and] at h0 ⊢
      · rw [if_neg (by omega)]
      · rw [if_neg (by omega)]
      · rw [if_neg (by omega), if_neg (by omega)]
  · simp [a]
theorem most_why1 {G : NB} {k : Nat} {ff : Bool} (h9 : most G k ff 99 < 99) : 0 < why G k ff (most G k ff 99 + 1) := by
  revert h9
  unfold why most opn
  by_cases a : G 6 k = 0
  · cases gg : gos G k ff with
    | false => simp [a]
    | true =>
      simp only [a, decide_true, Bool.true_and, Bool.true_eq_false, if_false, Nat.lt_irrefl]
      intro h0
      by_cases b : hb G k ff = 0 <;> by_cases c : ha G k ff = 0 <;> simp only [b, c, if_true, if_false, ne_eq, not_true, not_false_eq_true, false_and, true_and] at h0 ⊢
      · omega
      · rw [if_pos (by omega)]; decide
      · rw [if_pos (by omega)]; decide
      · split
        · decide
        · rw [if_pos (by omega)]; decide
  · have : 0 < G 6 k := by omega
    simp [this]
theorem most_shut {G : NB} {k : Nat} {ff : Bool} (h : opn G k ff = false) : most G k ff 99 = 0 := by
  unfold most
  rw [if_pos h]
theorem sm_s (f : Nat → Nat) (j : Nat) : sm f (j + 1) = sm f j + f j := rfl
theorem sm_add (f g : Nat → Nat) : ∀ A, sm (fun q => f q + g q) A = sm f A + sm g A := by
  intro A
  induction A with
  | zero => rfl
  | succ A ih => rw [sm_s, sm_s, sm_s, ih]; omega
theorem sm_cong {f g : Nat → Nat} : ∀ A, (∀ q, q < A → f q = g q) → sm f A = sm g A := by
  intro A
  induction A with
  | zero => intro _; rfl
  | succ A ih => intro h; rw [sm_s, sm_s, ih (fun q hq => h q (by omega)), h A (by omega)]
theorem sm_zero : ∀ A, sm (fun _ => 0) A = 0 := by
  intro A
  induction A with
  | zero => rfl
  | succ A ih => rw [sm_s, ih]
theorem sm_ind (a : Nat) : ∀ A, sm (fun q => if a = q then 1 else 0) A = if a < A then 1 else 0 := by
  intro A
  induction A with
  | zero => rfl
  | succ A ih =>
    rw [sm_s, ih]
    by_cases h : a < A
    · rw [if_pos h, if_neg (by omega), if_pos (by omega)]
    · rw [if_neg h]
      by_cases e : a = A
      · rw [if_pos e, if_pos (by omega)]
      · rw [if_neg e, if_neg (by omega)]
theorem sm_lt {f : Nat → Nat} : ∀ A, (∀ q, q < A → f q ≤ 1) → sm f A ≤ A ∧ ∀ q, q < A → f q = 0 → sm f A < A := by
  intro A
  induction A with
  | zero => intro _; exact ⟨Nat.le_refl _, fun q hq => absurd hq (Nat.not_lt_zero _)⟩
  | succ A ih =>
    intro h
    have i := ih (fun q hq => h q (by omega))
    have h1 := h A (by omega)
    rw [sm_s]
    refine ⟨by omega, fun q hq e => ?_⟩
    by_cases c : q = A
    · subst c; omega
    · have := i.2 q (by omega) e
      omega
theorem cnt_one {Q : Nat → Bool} : ∀ m, (∀ i j, i < m → j < m → Q i = true → Q j = true → i = j) → cnt Q m ≤ 1 := by
  intro m
  induction m with
  | zero => intro _; exact Nat.zero_le _
  | succ m ih =>
    intro h
    have i := ih (fun i j hi hj => h i j (by omega) (by omega))
    rw [cnt_s]
    by_cases c : Q m = true
    · have z : ∀ k, k ≤ m → cnt Q k = 0 := by
        intro k
        induction k with
        | zero => intro _; rfl
        | succ k ihk =>
          intro hk
          rw [cnt_s, ihk (by omega), if_neg]
          intro q
          have := h k m (by omega) (by omega) q c
          omega
      rw [z m (Nat.le_refl _), if_pos c]
      exact Nat.le_refl _
    · rw [if_neg c]; omega
theorem cnt_fib {P : Nat → Bool} {f : Nat → Nat} {A : Nat} : ∀ m, (∀ k, k < m → P k = true → f k < A) → cnt P m = sm (fun q => cnt (fun k => P k && decide (f k = q)) m) A := by
  intro m
  induction m with
  | zero => intro _; exact (sm_zero A).symm
  | succ m ih =>
    intro h
    have i := ih (fun k hk => h k (by omega))
    have e : sm (fun q => cnt (fun k => P k && decide (f k = q)) (m + 1)) A = sm (fun q => cnt (fun k => P k && decide (f k = q)) m) A + sm (fun q => if (P m && decide (f m = q)) = true then 1 else 0) A := by
      rw [← sm_add]
      rfl
    rw [e, ← i, cnt_s]
    congr 1
    by_cases c : P m = true
    · rw [if_pos c]
      have q : sm (fun q => if (P m && decide (f m = q)) = true then 1 else 0) A = sm (fun q => if f m = q then 1 else 0) A := sm_cong A (fun q _ => by simp [c])
      rw [q, sm_ind, if_pos (h m (by omega) c)]
    · rw [if_neg c]
      have q : sm (fun q => if (P m && decide (f m = q)) = true then 1 else 0) A = sm (fun _ => 0) A := sm_cong A (fun q _ => by simp [c])
      rw [q, sm_zero]
theorem rank_lt {G : NB} {m k : Nat} (hk : k < m) (hg : 0 < gap G k) : cnt (ahd G k) m < cnt (abG G) m := by
  refine (cnt_lt (P := ahd G k) (Q := abG G) (i := k) (fun j hj => ?_) ?_ ?_ m).2 hk
  · simp only [ahd, abG, Bool.or_eq_true, Bool.and_eq_true, decide_eq_true_eq] at *
    omega
  · simp [ahd]
  · simp [abG, hg]
theorem rank_ex {G : NB} {m q : Nat} (hq : q < cnt (abG G) m) : ∃ k, k < m ∧ 0 < gap G k ∧ cnt (ahd G k) m = q := by
  by_cases c : ∃ k, k < m ∧ 0 < gap G k ∧ cnt (ahd G k) m = q
  · exact c
  · exfalso
    have f := cnt_fib (P := abG G) (f := fun k => cnt (ahd G k) m) (A := cnt (abG G) m) m (fun k hk hp => rank_lt hk (by simpa [abG] using hp))
    have o : ∀ r, r < cnt (abG G) m → cnt (fun k => abG G k && decide (cnt (ahd G k) m = r)) m ≤ 1 := fun r _ => cnt_one m (fun i j hi hj h1 h2 => by
      simp only [Bool.and_eq_true, decide_eq_true_eq] at h1 h2
      exact rank_un hi hj (h1.2.trans h2.2.symm))
    have z : cnt (fun k => abG G k && decide (cnt (ahd G k) m = q)) m = 0 := by
      have gen : ∀ k, k ≤ m → cnt (fun k => abG G k && decide (cnt (ahd G k) m = q)) k = 0 := by
        intro k
        induction k with
        | zero => intro _; rfl
        | succ k ih =>
          intro hk
          rw [cnt_s, ih (by omega), if_neg]
          intro t
          simp only [Bool.and_eq_true, decide_eq_true_eq, abG] at t
          exact c ⟨k, by omega, t.1, t.2⟩
      exact gen m (Nat.le_refl _)
    have l := (sm_lt (f := fun q => cnt (fun k => abG G k && decide (cnt (ahd G k) m = q)) m) (cnt (abG G) m) o).2 q hq z
    exact absurd f (by intro e; rw [← e] at l; exact Nat.lt_irrefl _ l)
theorem rank_srt {G : NB} {m a b : Nat} (hb : b < m) (h : cnt (ahd G a) m < cnt (ahd G b) m) : gap G b ≤ gap G a := by
  by_cases c : gap G b ≤ gap G a
  · exact c
  · exfalso
    have := (cnt_lt (P := ahd G b) (Q := ahd G a) (i := b) (fun j hj => by
      simp only [ahd, Bool.or_eq_true, Bool.and_eq_true, decide_eq_true_eq] at *
      omega) (by simp [ahd]) (by simp [ahd]; omega) m).2 hb
    omega
/-- what worst answers, by rank -/
theorem wr_in {N : Nat} {G : NB} {z : Nat} {H : Nat → NB} {P : Option NB} {hs : Int32} {n0 n1 : Blk} {ζ : Row} {η : Nat → Blk} (S : St N G z H P hs n0 n1 ζ η) (n2 : Blk) (δ : Row) (χ : Blk) {q : Nat} (hq : q < cnt (abG G) (G 0 0)) : ∃ k, k < G 0 0 ∧ 0 < gap G k ∧ cnt (ahd G k) (G 0 0) = q ∧ f_X5_worst hs n0 n1 n2 ζ η δ χ (nI q) = some (nI k) := by
  have hm := S.wf.2.1.1
  have hc := cnt_le (abG G) (G 0 0)
  obtain ⟨k, k1, k2, k3⟩ := rank_ex hq
  rcases rd_worst S n2 δ χ (q := q) (by omega) with h | ⟨h, _⟩
  · exact h
  · exact absurd ⟨k2, k3⟩ (h k k1)
theorem wr_out {N : Nat} {G : NB} {z : Nat} {H : Nat → NB} {P : Option NB} {hs : Int32} {n0 n1 : Blk} {ζ : Row} {η : Nat → Blk} (S : St N G z H P hs n0 n1 ζ η) (n2 : Blk) (δ : Row) (χ : Blk) : f_X5_worst hs n0 n1 n2 ζ η δ χ (nI (cnt (abG G) (G 0 0))) = some (-100005) := by
  have hm := S.wf.2.1.1
  have hc := cnt_le (abG G) (G 0 0)
  rcases rd_worst S n2 δ χ (q := cnt (abG G) (G 0 0)) (by omega) with ⟨k, k1, k2, k3, _⟩ | ⟨_, h⟩
  · have := rank_lt k1 k2
    omega
  · exact h
/-- a hall's distance as the law takes it: none to go from the outside -/
noncomputable def dv (G : NB) (h : Nat) : Int32 := if h = 0 then nI 0 else haI G h 4
theorem dv_far {G : NB} {h : Nat} (h6 : h < 6) (hd : dst G h = 1000) : dv G h < 0 := by
  unfold dv haI
  have : h ≠ 0 := by
    intro c; subst c
    rw [dst_0] at hd; omega
  rw [if_neg this, if_pos hd]
  show (-100005 : Int32) < 0
  decide
theorem dv_near {G : NB} {h : Nat} (h6 : h < 6) (hd : dst G h ≤ 5) : dv G h = nI (dst G h) := by
  unfold dv haI
  by_cases c : h = 0
  · subst c; rw [if_pos rfl, dst_0]
  · rw [if_neg c, if_neg (by omega)]; rfl
theorem so_hb {G : NB} {k sd : Nat} {ff : Bool} (hk : k < G 0 0) (h : (sd = 0 ∧ ff = true) ∨ (sd = 1 ∧ ff = false)) : soI G k sd = nI (hb G k ff) ∧ soI G k (1 - sd) = nI (ha G k ff) := by
  unfold soI
  rw [if_pos hk, if_pos hk]
  rcases h with ⟨rfl, rfl⟩ | ⟨rfl, rfl⟩
  · exact ⟨rfl, rfl⟩
  · exact ⟨rfl, rfl⟩
theorem op_in {G : NB} {k sd : Nat} {ff : Bool} (h : (sd = 0 ∧ ff = true) ∨ (sd = 1 ∧ ff = false)) : (opn G k ff = true ↔ G 6 k = 0 ∧ (G 5 k = 0 ∨ G 5 k = sd + 1)) := by
  unfold opn gos
  rcases h with ⟨rfl, rfl⟩ | ⟨rfl, rfl⟩
  · simp
  · simp
