/-! the class: what is told -/
def cnt (P : Nat → Bool) : Nat → Nat
  | 0 => 0
  | j + 1 => cnt P j + (if P j = true then 1 else 0)
def sm (f : Nat → Nat) : Nat → Nat
  | 0 => 0
  | j + 1 => sm f j + f j
theorem cnt_s (P : Nat → Bool) (j : Nat) : cnt P (j + 1) = cnt P j + (if P j = true then 1 else 0) := rfl
theorem cnt_le (P : Nat → Bool) : ∀ j, cnt P j ≤ j
  | 0 => Nat.le_refl _
  | j + 1 => by
    have := cnt_le P j
    simp only [cnt]
    split <;> omega
theorem FU_s (k : Nat) (h : k < 2 ^ 31) : ∃ n, FU = n + k := ⟨FU - k, by have : FU = 4294967296 := rfl; omega⟩
theorem cl_sum (f : Row) : f_X4_sumOfAllHalls 6 f = some (0 + f 1 + f 2 + f 3 + f 4 + f 5) := by
  unfold f_X4_sumOfAllHalls
  obtain ⟨n, hn⟩ := FU_s 6 (by decide)
  rw [hn]
  rw [show n + 6 = (n + 5) + 1 from rfl, f_X4_sumOfAllHalls_L4, if_neg (by decide), e1, at_k (by decide) (by decide), Option.bind_some, nI_add]
  rw [show n + 5 = (n + 4) + 1 from rfl, f_X4_sumOfAllHalls_L4, if_neg (by decide), at_k (by decide) (by decide), Option.bind_some, nI_1]
  rw [show n + 4 = (n + 3) + 1 from rfl, f_X4_sumOfAllHalls_L4, if_neg (by decide), at_k (by decide) (by decide), Option.bind_some, nI_1]
  rw [show n + 3 = (n + 2) + 1 from rfl, f_X4_sumOfAllHalls_L4, if_neg (by decide), at_k (by decide) (by decide), Option.bind_some, nI_1]
  rw [show n + 2 = (n + 1) + 1 from rfl, f_X4_sumOfAllHalls_L4, if_neg (by decide), at_k (by decide) (by decide), Option.bind_some, nI_1]
  rw [f_X4_sumOfAllHalls_L4, if_pos (by decide)]
def ppl (G : NB) : Nat := G 2 1 + G 2 2 + G 2 3 + G 2 4 + G 2 5
def rms (G : NB) : Nat := G 1 1 + G 1 2 + G 1 3 + G 1 4 + G 1 5
theorem cl_ppl {σ : Blk} {G : NB} (C : Cls σ G) : f_X4_peopleOfAllHalls σ = some (nI (ppl G)) := by
  unfold f_X4_peopleOfAllHalls
  rw [cl_sum, C.2.2.1 1 (by decide) (by decide), C.2.2.1 2 (by decide) (by decide), C.2.2.1 3 (by decide) (by decide), C.2.2.1 4 (by decide) (by decide), C.2.2.1 5 (by decide) (by decide), e0, nI_add, nI_add, nI_add, nI_add, nI_add, Option.bind_some]
  unfold ppl
  congr 2
  omega
theorem cl_rms {σ : Blk} {G : NB} (C : Cls σ G) : f_X4_roomsOfAllHalls σ = some (nI (rms G)) := by
  unfold f_X4_roomsOfAllHalls
  rw [cl_sum, C.2.1 1 (by decide) (by decide), C.2.1 2 (by decide) (by decide), C.2.1 3 (by decide) (by decide), C.2.1 4 (by decide) (by decide), C.2.1 5 (by decide) (by decide), e0, nI_add, nI_add, nI_add, nI_add, nI_add, Option.bind_some]
  unfold rms
  congr 2
  omega
theorem ppl_le {G : NB} {N : Nat} (Wf : WF N G) : ppl G ≤ 2500 := by
  have w1 := Wf.2.2.1 1 (by decide) (by decide)
  have w2 := Wf.2.2.1 2 (by decide) (by decide)
  have w3 := Wf.2.2.1 3 (by decide) (by decide)
  have w4 := Wf.2.2.1 4 (by decide) (by decide)
  have w5 := Wf.2.2.1 5 (by decide) (by decide)
  unfold ppl
  omega
/-- what the two sides of a stile tell, as the signs come -/
def cd (G : NB) (k a b : Nat) : Int32 := nI (G 7 (k * 4 + a)) - nI (G 7 (k * 4 + b))
theorem cl_first {σ : Blk} {G : NB} (C : Cls σ G) {k : Nat} (hk : k < 12) : f_X4_toldByFirstSide σ (nI k) = some (cd G k 1 0) := by
  unfold f_X4_toldByFirstSide
  rw [e1, e0, cl_countOf C hk (by decide), cl_countOf C hk (by decide)]
  rfl
theorem cl_second {σ : Blk} {G : NB} (C : Cls σ G) {k : Nat} (hk : k < 12) : f_X4_toldBySecondSide σ (nI k) = some (cd G k 3 2) := by
  unfold f_X4_toldBySecondSide
  rw [e3, e2, cl_countOf C hk (by decide), cl_countOf C hk (by decide)]
  rfl
def tlO (G : NB) (h : Nat) : Nat → Int32
  | 0 => 0
  | j + 1 => if G 3 j = h then tlO G h j + cd G j 1 0 else if G 4 j = h then tlO G h j + cd G j 3 2 else tlO G h j
def tlF (G : NB) (h : Nat) : Nat → Int32
  | 0 => 0
  | j + 1 => if G 3 j = h then tlF G h j + cd G j 2 3 else if G 4 j = h then tlF G h j + cd G j 0 1 else tlF G h j
theorem cd_neg (a : Int32) (G : NB) (k p q : Nat) : a - cd G k p q = a + cd G k q p := by
  unfold cd
  rw [Int32.sub_eq_add_neg, Int32.neg_sub]
theorem cl_own {σ : Blk} {G : NB} {N : Nat} (C : Cls σ G) (Wf : WF N G) {h : Nat} (hh : h < 6) : f_X4_toldByOwnSides σ (nI h) = some (tlO G h (G 0 0)) := by
  have hm := Wf.2.1.1
  have key : ∀ (d j n : Nat), j + d = G 0 0 → d < n → f_X4_toldByOwnSides_L4 σ (nI h) n (tlO G h j) (nI j) = some (tlO G h (G 0 0)) := by
    intro d
    induction d with
    | zero =>
      intro j n hj hn
      obtain ⟨n, rfl⟩ : ∃ m, n = m + 1 := ⟨n - 1, by omega⟩
      rw [f_X4_toldByOwnSides_L4, C.1 0 (by decide), if_pos (nI_le (by omega) (by omega)), show j = G 0 0 by omega]
    | succ d ih =>
      intro j n hj hn
      obtain ⟨n, rfl⟩ : ∃ m, n = m + 1 := ⟨n - 1, by omega⟩
      have j12 : j < 12 := by omega
      have w := Wf.2.2.2.1 j j12
      have i := ih (j + 1) n (by omega) (by omega)
      rw [f_X4_toldByOwnSides_L4, C.1 0 (by decide), if_neg (nI_ge (by omega) (by omega)), at_k j12 (by decide), Option.bind_some, (C.2.2.2.1 j j12).1, cl_first C j12, at_k j12 (by decide), Option.bind_some, Option.bind_some, (C.2.2.2.1 j j12).2.1, cl_second C j12, Option.bind_some, nI_1]
      simp only [nI_eq (show G 3 j < 2 ^ 31 by omega) (show h < 2 ^ 31 by omega), nI_eq (show G 4 j < 2 ^ 31 by omega) (show h < 2 ^ 31 by omega)]
      simp only [tlO] at i
      by_cases a : G 3 j = h
      · rw [if_pos a] at i ⊢; exact i
      · rw [if_neg a] at i ⊢
        by_cases b : G 4 j = h
        · rw [if_pos b] at i ⊢; exact i
        · rw [if_neg b] at i ⊢; exact i
  unfold f_X4_toldByOwnSides
  have := key (G 0 0) 0 FU (by omega) (FU_big (by omega))
  rw [← e0] at this
  exact this
theorem cl_far {σ : Blk} {G : NB} {N : Nat} (C : Cls σ G) (Wf : WF N G) {h : Nat} (hh : h < 6) : f_X4_toldByFarSides σ (nI h) = some (tlF G h (G 0 0)) := by
  have hm := Wf.2.1.1
  have key : ∀ (d j n : Nat), j + d = G 0 0 → d < n → f_X4_toldByFarSides_L4 σ (nI h) n (tlF G h j) (nI j) = some (tlF G h (G 0 0)) := by
    intro d
    induction d with
    | zero =>
      intro j n hj hn
      obtain ⟨n, rfl⟩ : ∃ m, n = m + 1 := ⟨n - 1, by omega⟩
      rw [f_X4_toldByFarSides_L4, C.1 0 (by decide), if_pos (nI_le (by omega) (by omega)), show j = G 0 0 by omega]
    | succ d ih =>
      intro j n hj hn
      obtain ⟨n, rfl⟩ : ∃ m, n = m + 1 := ⟨n - 1, by omega⟩
      have j12 : j < 12 := by omega
      have w := Wf.2.2.2.1 j j12
      have i := ih (j + 1) n (by omega) (by omega)
      rw [f_X4_toldByFarSides_L4, C.1 0 (by decide), if_neg (nI_ge (by omega) (by omega)), at_k j12 (by decide), Option.bind_some, (C.2.2.2.1 j j12).1, cl_second C j12, at_k j12 (by decide), Option.bind_some, Option.bind_some, (C.2.2.2.1 j j12).2.1, cl_first C j12, Option.bind_some, nI_1, cd_neg, cd_neg]
      simp only [nI_eq (show G 3 j < 2 ^ 31 by omega) (show h < 2 ^ 31 by omega), nI_eq (show G 4 j < 2 ^ 31 by omega) (show h < 2 ^ 31 by omega)]
      simp only [tlF] at i
      by_cases a : G 3 j = h
      · rw [if_pos a] at i ⊢; exact i
      · rw [if_neg a] at i ⊢
        by_cases b : G 4 j = h
        · rw [if_pos b] at i ⊢; exact i
        · rw [if_neg b] at i ⊢; exact i
  unfold f_X4_toldByFarSides
  have := key (G 0 0) 0 FU (by omega) (FU_big (by omega))
  rw [← e0] at this
  exact this
theorem cl_allOwn {σ : Blk} {G : NB} {N : Nat} (C : Cls σ G) (Wf : WF N G) : f_X4_toldByAllOwnSides σ = some (0 + tlO G 1 (G 0 0) + tlO G 2 (G 0 0) + tlO G 3 (G 0 0) + tlO G 4 (G 0 0) + tlO G 5 (G 0 0)) := by
  unfold f_X4_toldByAllOwnSides
  obtain ⟨n, hn⟩ := FU_s 6 (by decide)
  rw [hn]
  rw [show n + 6 = (n + 5) + 1 from rfl, f_X4_toldByAllOwnSides_L4, if_neg (by decide), e1, cl_own C Wf (by decide), Option.bind_some, nI_add]
  rw [show n + 5 = (n + 4) + 1 from rfl, f_X4_toldByAllOwnSides_L4, if_neg (by decide), cl_own C Wf (by decide), Option.bind_some, nI_1]
  rw [show n + 4 = (n + 3) + 1 from rfl, f_X4_toldByAllOwnSides_L4, if_neg (by decide), cl_own C Wf (by decide), Option.bind_some, nI_1]
  rw [show n + 3 = (n + 2) + 1 from rfl, f_X4_toldByAllOwnSides_L4, if_neg (by decide), cl_own C Wf (by decide), Option.bind_some, nI_1]
  rw [show n + 2 = (n + 1) + 1 from rfl, f_X4_toldByAllOwnSides_L4, if_neg (by decide), cl_own C Wf (by decide), Option.bind_some, nI_1]
  rw [f_X4_toldByAllOwnSides_L4, if_pos (by decide)]
theorem cl_allFar {σ : Blk} {G : NB} {N : Nat} (C : Cls σ G) (Wf : WF N G) : f_X4_toldByAllFarSides σ = some (0 + tlF G 1 (G 0 0) + tlF G 2 (G 0 0) + tlF G 3 (G 0 0) + tlF G 4 (G 0 0) + tlF G 5 (G 0 0)) := by
  unfold f_X4_toldByAllFarSides
  obtain ⟨n, hn⟩ := FU_s 6 (by decide)
  rw [hn]
  rw [show n + 6 = (n + 5) + 1 from rfl, f_X4_toldByAllFarSides_L4, if_neg (by decide), e1, cl_far C Wf (by decide), Option.bind_some, nI_add]
  rw [show n + 5 = (n + 4) + 1 from rfl, f_X4_toldByAllFarSides_L4, if_neg (by decide), cl_far C Wf (by decide), Option.bind_some, nI_1]
  rw [show n + 4 = (n + 3) + 1 from rfl, f_X4_toldByAllFarSides_L4, if_neg (by decide), cl_far C Wf (by decide), Option.bind_some, nI_1]
  rw [show n + 3 = (n + 2) + 1 from rfl, f_X4_toldByAllFarSides_L4, if_neg (by decide), cl_far C Wf (by decide), Option.bind_some, nI_1]
  rw [show n + 2 = (n + 1) + 1 from rfl, f_X4_toldByAllFarSides_L4, if_neg (by decide), cl_far C Wf (by decide), Option.bind_some, nI_1]
  rw [f_X4_toldByAllFarSides_L4, if_pos (by decide)]
/-- the room left of a hall; the fullest hall of those below h -/
def lft (G : NB) (h : Nat) : Nat := G 1 h - G 2 h
def ful (G : NB) : Nat → Nat
  | 0 => 1
  | h + 1 => if h < 2 then 1 else if lft G h < lft G (ful G h) then h else ful G h
theorem ful_in (G : NB) : ∀ h, h ≤ 6 → 1 ≤ ful G h ∧ ful G h < 6
  | 0, _ => by simp [ful]
  | h + 1, hh => by
    have := ful_in G h (by omega)
    simp only [ful]
    split
    · decide
    · split <;> omega
theorem cl_fullest {σ : Blk} {G : NB} {N : Nat} (C : Cls σ G) (Wf : WF N G) : f_X4_fullestHall σ = some (nI (ful G 6)) := by
  have key : ∀ (d h n : Nat), h + d = 6 → 2 ≤ h → d < n → f_X4_fullestHall_L6 σ n (nI (ful G h)) (nI h) = some (nI (ful G 6)) := by
    intro d
    induction d with
    | zero =>
      intro h n hh h2 hn
      obtain ⟨n, rfl⟩ : ∃ m, n = m + 1 := ⟨n - 1, by omega⟩
      rw [show h = 6 by omega, f_X4_fullestHall_L6, if_pos (by decide)]
    | succ d ih =>
      intro h n hh h2 hn
      obtain ⟨n, rfl⟩ : ∃ m, n = m + 1 := ⟨n - 1, by omega⟩
      have fi := ful_in G h (by omega)
      have w1 := Wf.2.2.1 h (by omega) (by omega)
      have w2 := Wf.2.2.1 (ful G h) fi.1 fi.2
      have i := ih (h + 1) n (by omega) (by omega) (by omega)
      rw [f_X4_fullestHall_L6, e6, if_neg (nI_ge (by omega) (by decide))]
      simp only [at_k (show h < 6 by omega) (show 6 < 2 ^ 31 by decide), at_k fi.2 (show 6 < 2 ^ 31 by decide), Option.bind_some, C.2.1 h (by omega) (by omega), C.2.2.1 h (by omega) (by omega), C.2.1 _ fi.1 fi.2, C.2.2.1 _ fi.1 fi.2]
      rw [nI_sub w1.2.2, nI_sub w2.2.2, nI_1]
      have il : ful G (h + 1) = (if lft G h < lft G (ful G h) then h else ful G h) := by
        simp only [ful]; rw [if_neg (by omega)]
      rw [il] at i
      unfold lft at i
      by_cases c : G 1 h - G 2 h < G 1 (ful G h) - G 2 (ful G h)
      · rw [if_pos c] at i
        rw [if_neg (nI_ge c (by omega))]
        exact i
      · rw [if_neg c] at i
        rw [if_pos (nI_le (by omega) (by omega))]
        exact i
  unfold f_X4_fullestHall
  rw [e1, nI_add]
  exact key 4 2 FU rfl (by decide) (FU_big (by decide))
theorem cl_stilesOf {σ : Blk} {G : NB} {N : Nat} (C : Cls σ G) (Wf : WF N G) {h : Nat} (hh : h < 6) : f_X4_stilesOfHall σ (nI h) = some (nI (cnt (fun k => decide (G 3 k = h) || decide (G 4 k = h)) (G 0 0))) := by
  have hm := Wf.2.1.1
  have key : ∀ (d j n : Nat), j + d = G 0 0 → d < n → f_X4_stilesOfHall_L4 σ (nI h) n (nI (cnt (fun k => decide (G 3 k = h) || decide (G 4 k = h)) j)) (nI j) = some (nI (cnt (fun k => decide (G 3 k = h) || decide (G 4 k = h)) (G 0 0))) := by
    intro d
    induction d with
    | zero =>
      intro j n hj hn
      obtain ⟨n, rfl⟩ : ∃ m, n = m + 1 := ⟨n - 1, by omega⟩
      rw [f_X4_stilesOfHall_L4, C.1 0 (by decide), if_pos (nI_le (by omega) (by omega)), show j = G 0 0 by omega]
    | succ d ih =>
      intro j n hj hn
      obtain ⟨n, rfl⟩ : ∃ m, n = m + 1 := ⟨n - 1, by omega⟩
      have j12 : j < 12 := by omega
      have w := Wf.2.2.2.1 j j12
      have i := ih (j + 1) n (by omega) (by omega)
      rw [f_X4_stilesOfHall_L4, C.1 0 (by decide), if_neg (nI_ge (by omega) (by omega)), at_k j12 (by decide), Option.bind_some, (C.2.2.2.1 j j12).1, at_k j12 (by decide), Option.bind_some, (C.2.2.2.1 j j12).2.1, nI_1, nI_1]
      simp only [nI_eq (show G 3 j < 2 ^ 31 by omega) (show h < 2 ^ 31 by omega), nI_eq (show G 4 j < 2 ^ 31 by omega) (show h < 2 ^ 31 by omega)]
      simp only [cnt] at i
      by_cases a : G 3 j = h
      · simpa [a] using i
      · by_cases b : G 4 j = h
        · simpa [a, b] using i
        · simpa [a, b] using i
  unfold f_X4_stilesOfHall
  have := key (G 0 0) 0 FU (by omega) (FU_big (by omega))
  simp only [cnt] at this
  rw [← e0] at this
  exact this
theorem cl_under {σ : Blk} {G : NB} {N : Nat} (C : Cls σ G) (Wf : WF N G) : f_X4_stilesUnderRepair σ = some (nI (cnt (fun k => decide (0 < G 6 k)) (G 0 0))) := by
  have hm := Wf.2.1.1
  have key : ∀ (d j n : Nat), j + d = G 0 0 → d < n → f_X4_stilesUnderRepair_L4 σ n (nI (cnt (fun k => decide (0 < G 6 k)) j)) (nI j) = some (nI (cnt (fun k => decide (0 < G 6 k)) (G 0 0))) := by
    intro d
    induction d with
    | zero =>
      intro j n hj hn
      obtain ⟨n, rfl⟩ : ∃ m, n = m + 1 := ⟨n - 1, by omega⟩
      rw [f_X4_stilesUnderRepair_L4, C.1 0 (by decide), if_pos (nI_le (by omega) (by omega)), show j = G 0 0 by omega]
    | succ d ih =>
      intro j n hj hn
      obtain ⟨n, rfl⟩ : ∃ m, n = m + 1 := ⟨n - 1, by omega⟩
      have j12 : j < 12 := by omega
      have i := ih (j + 1) n (by omega) (by omega)
      rw [f_X4_stilesUnderRepair_L4, C.1 0 (by decide), if_neg (nI_ge (by omega) (by omega)), cl_ur C Wf j12, Option.bind_some, nI_1, nI_1]
      simp only [cnt] at i
      by_cases a : 0 < G 6 j
      · simpa [a] using i
      · simpa [a] using i
  unfold f_X4_stilesUnderRepair
  have := key (G 0 0) 0 FU (by omega) (FU_big (by omega))
  simp only [cnt] at this
  rw [← e0] at this
  exact this
theorem cl_gaps {σ : Blk} {G : NB} {N : Nat} (C : Cls σ G) (Wf : WF N G) : f_X4_sumOfGaps σ = some (nI (sm (gap G) (G 0 0))) := by
  have hm := Wf.2.1.1
  have key : ∀ (d j n : Nat), j + d = G 0 0 → d < n → f_X4_sumOfGaps_L4 σ n (nI (sm (gap G) j)) (nI j) = some (nI (sm (gap G) (G 0 0))) := by
    intro d
    induction d with
    | zero =>
      intro j n hj hn
      obtain ⟨n, rfl⟩ : ∃ m, n = m + 1 := ⟨n - 1, by omega⟩
      rw [f_X4_sumOfGaps_L4, C.1 0 (by decide), if_pos (nI_le (by omega) (by omega)), show j = G 0 0 by omega]
    | succ d ih =>
      intro j n hj hn
      obtain ⟨n, rfl⟩ : ∃ m, n = m + 1 := ⟨n - 1, by omega⟩
      have i := ih (j + 1) n (by omega) (by omega)
      rw [f_X4_sumOfGaps_L4, C.1 0 (by decide), if_neg (nI_ge (by omega) (by omega)), cl_gap C Wf (by omega), Option.bind_some, nI_1, nI_add]
      exact i
  unfold f_X4_sumOfGaps
  have := key (G 0 0) 0 FU (by omega) (FU_big (by omega))
  simp only [sm] at this
  rw [← e0] at this
  exact this
theorem gap_le {G : NB} {N : Nat} (Wf : WF N G) {k : Nat} (hk : k < 12) : gap G k ≤ 2 * N := by
  have w0 := (Wf.2.2.2.2.2.1 (k * 4 + 0) (by omega)).1
  have w1 := (Wf.2.2.2.2.2.1 (k * 4 + 1) (by omega)).1
  have w2 := (Wf.2.2.2.2.2.1 (k * 4 + 2) (by omega)).1
  have w3 := (Wf.2.2.2.2.2.1 (k * 4 + 3) (by omega)).1
  unfold gap ds
  omega
/-- which stiles go ahead of the stile k by their gaps -/
def ahd (G : NB) (k j : Nat) : Bool := decide (gap G k < gap G j) || (decide (gap G j = gap G k) && decide (j < k))
theorem cl_worse {σ : Blk} {G : NB} {N : Nat} (C : Cls σ G) (Wf : WF N G) {k : Nat} (hk : k < 12) : f_X4_worseStiles σ (nI k) = some (nI (cnt (ahd G k) (G 0 0))) := by
  have hm := Wf.2.1.1
  have wN := Wf.1
  have gk := gap_le Wf hk
  have key : ∀ (d j n : Nat), j + d = G 0 0 → d < n → f_X4_worseStiles_L14 σ (nI k) (nI (gap G k)) n (nI (cnt (ahd G k) j)) (nI j) = some (nI (cnt (ahd G k) (G 0 0))) := by
    intro d
    induction d with
    | zero =>
      intro j n hj hn
      obtain ⟨n, rfl⟩ : ∃ m, n = m + 1 := ⟨n - 1, by omega⟩
      rw [f_X4_worseStiles_L14, C.1 0 (by decide), if_pos (nI_le (by omega) (by omega)), show j = G 0 0 by omega]
    | succ d ih =>
      intro j n hj hn
      obtain ⟨n, rfl⟩ : ∃ m, n = m + 1 := ⟨n - 1, by omega⟩
      have j12 : j < 12 := by omega
      have gj := gap_le Wf j12
      have i := ih (j + 1) n (by omega) (by omega)
      rw [f_X4_worseStiles_L14, C.1 0 (by decide), if_neg (nI_ge (by omega) (by omega)), cl_gap C Wf j12, Option.bind_some, nI_1, nI_1]
      simp only [nI_ltI (show gap G k < 2 ^ 31 by omega) (show gap G j < 2 ^ 31 by omega), nI_eq (show gap G j < 2 ^ 31 by omega) (show gap G k < 2 ^ 31 by omega), nI_leI (show k < 2 ^ 31 by omega) (show j < 2 ^ 31 by omega)]
      simp only [cnt, ahd] at i
      by_cases a : gap G k < gap G j
      · simpa [a] using i
      · by_cases b : gap G j = gap G k
        · by_cases c : j < k
          · have : ¬ k ≤ j := by omega
            simpa [a, b, c, this] using i
          · have : k ≤ j := by omega
            simpa [a, b, c, this] using i
        · simpa [a, b] using i
  unfold f_X4_worseStiles
  rw [cl_gap C Wf hk, Option.bind_some]
  have := key (G 0 0) 0 FU (by omega) (FU_big (by omega))
  simp only [cnt] at this
  rw [← e0] at this
  exact this
theorem cl_withSlip {σ : Blk} {G : NB} {N : Nat} (C : Cls σ G) (Wf : WF N G) : f_X1_withSlip σ = some (nI (cnt (fun i => decide (0 < G 8 i)) 48)) := by
  have key : ∀ (d j n : Nat), j + d = 48 → d < n → f_X1_withSlip_L4 σ n (nI (cnt (fun i => decide (0 < G 8 i)) j)) (nI j) = some (nI (cnt (fun i => decide (0 < G 8 i)) 48)) := by
    intro d
    induction d with
    | zero =>
      intro j n hj hn
      obtain ⟨n, rfl⟩ : ∃ m, n = m + 1 := ⟨n - 1, by omega⟩
      rw [f_X1_withSlip_L4, if_pos (nI_le (by omega) (by omega)), show j = 48 by omega]
    | succ d ih =>
      intro j n hj hn
      obtain ⟨n, rfl⟩ : ∃ m, n = m + 1 := ⟨n - 1, by omega⟩
      have j48 : j < 48 := by omega
      have w := (Wf.2.2.2.2.2.1 j j48).2.1
      have i := ih (j + 1) n (by omega) (by omega)
      rw [f_X1_withSlip_L4, if_neg (nI_ge (by omega) (by decide)), at_k j48 (by decide), Option.bind_some, (C.2.2.2.2 j j48).2.1, nI_1, nI_1]
      rw [cnt_s _ j] at i
      by_cases a : 0 < G 8 j
      · rw [if_neg (nI_nle a (by omega))]
        rw [if_pos (by simp [a])] at i
        exact i
      · rw [if_pos (by rw [show G 8 j = 0 by omega]; decide)]
        rw [if_neg (by simp [a])] at i
        exact i
  unfold f_X1_withSlip
  have := key 48 0 FU rfl (FU_big (by decide))
  rw [show cnt (fun i => decide (0 < G 8 i)) 0 = 0 from rfl, ← e0] at this
  exact this
