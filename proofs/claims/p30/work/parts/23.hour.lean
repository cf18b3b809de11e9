/-! the class: slips, audits, repairs, hours -/
theorem Cls.cong {σ : Blk} {G G' : NB} (C : Cls σ G) (h : ∀ p j, G p j = G' p j) : Cls σ G' := by
  have e : G = G' := funext fun p => funext fun j => h p j
  rw [← e]; exact C
theorem cl_begin {σ : Blk} {G : NB} (C : Cls σ G) {i v w : Nat} (hi : i < 48) (hw : v = 0 ∨ w = 0) : ∃ σ', f_X1_beginAnew σ (nI i) (nI v) = some σ' ∧ Cls σ' (setN (setN G 9 i w) 8 i v) := by
  unfold f_X1_beginAnew lt
  simp only [put_k hi (show 48 < 2 ^ 31 by decide), Option.bind_some]
  refine ⟨_, rfl, ?_⟩
  refine ⟨fun j hj => ?_, fun h h1 h2 => ?_, fun h h1 h2 => ?_, fun k hk => ?_, fun j hj => ?_⟩
  · simpa [upR_app, setN_app] using C.1 j hj
  · simpa [upR_app, setN_app] using C.2.1 h h1 h2
  · simpa [upR_app, setN_app] using C.2.2.1 h h1 h2
  · simpa [upR_app, setN_app] using C.2.2.2.1 k hk
  · have cj := C.2.2.2.2 j hj
    by_cases e : j = i
    · subst e
      have : (if v = 0 then 0 else w % v) = 0 := by
        rcases hw with rfl | rfl
        · rfl
        · split <;> simp
      simp [upR_app, upd_app, setN_app, cj, this, e0]
    · simpa [upR_app, upd_app, setN_app, e] using cj
def ens (G : NB) (k c : Nat) : NB := fun p i => if p = 8 ∧ k * 4 ≤ i ∧ i < k * 4 + c then 0 else G p i
theorem cl_ens_loop {k : Nat} (hk : k < 12) : ∀ (d c n : Nat) (σ : Blk) (G : NB), c + d = 4 → d < n → Cls σ (ens G k c) → ∃ σ', f_X1_endSlips_L2 (nI k) n σ (nI c) = some σ' ∧ Cls σ' (ens G k 4) := by
  intro d
  induction d with
  | zero =>
    intro c n σ G hc hn C
    obtain ⟨n, rfl⟩ : ∃ m, n = m + 1 := ⟨n - 1, by omega⟩
    have hc4 : c = 4 := by omega
    subst hc4
    exact ⟨σ, by rw [f_X1_endSlips_L2, if_pos (by decide)], C⟩
  | succ d ih =>
    intro c n σ G hc hn C
    obtain ⟨n, rfl⟩ : ∃ m, n = m + 1 := ⟨n - 1, by omega⟩
    rw [f_X1_endSlips_L2, e4, if_neg (nI_ge (by omega) (by decide))]
    simp only [lt, ci_k]
    obtain ⟨σ1, h1, C1⟩ := cl_begin C (i := k * 4 + c) (v := 0) (w := ens G k c 9 (k * 4 + c)) (by omega) (Or.inl rfl)
    rw [← e0] at h1
    rw [h1, Option.bind_some, nI_1]
    refine ih (c + 1) n σ1 G (by omega) (by omega) (C1.cong fun p j => ?_)
    simp only [ens, setN_app]
    by_cases a : p = 8
    · subst a
      by_cases b : j = k * 4 + c
      · subst b; simp
      · simp only [b, and_false, if_false, true_and]
        repeat' split
        all_goals first | rfl | omega
    · by_cases b : p = 9 ∧ j = k * 4 + c
      · obtain ⟨rfl, rfl⟩ := b; simp
      · simp [a, b]
theorem cl_ens {σ : Blk} {G : NB} (C : Cls σ G) {k : Nat} (hk : k < 12) : ∃ σ', f_X1_endSlips σ (nI k) = some σ' ∧ Cls σ' (ens G k 4) := by
  unfold f_X1_endSlips
  rw [e0]
  exact cl_ens_loop hk 4 0 FU σ G rfl (by decide) (C.cong fun p j => by simp only [ens]; rw [if_neg (by omega)])
/-- the state behind an hour in which the first j stiles are seen to -/
def hrp (G : NB) (j : Nat) : NB := fun p i => if p = 6 ∧ i < j then G 6 i - 1 else if p = 8 ∧ i / 4 < j ∧ G 6 (i / 4) = 1 then 0 else G p i
def hr (G : NB) : NB := setN (hrp G (G 0 0)) 0 3 (G 0 3 + 1)
def ovr (G : NB) : Nat → Nat
  | 0 => 0
  | j + 1 => ovr G j + (if G 6 j = 1 then 1 else 0)
theorem wf_hrp {G : NB} {N : Nat} (Wf : WF N G) (j : Nat) : WF N (hrp G j) := by
  refine ⟨Wf.1, ?_, fun h h1 h2 => ?_, fun k hk => ?_, fun k hk => ?_, fun i hi => ?_, fun k h1 h2 => ?_, fun i h1 h2 => ?_⟩
  · simpa [hrp] using Wf.2.1
  · simpa [hrp] using Wf.2.2.1 h h1 h2
  · have w := Wf.2.2.2.1 k hk
    simp [hrp]
    split <;> omega
  · simpa [hrp] using Wf.2.2.2.2.1 k (by simpa [hrp] using hk)
  · have w := Wf.2.2.2.2.2.1 i hi
    simp [hrp]
    split <;> omega
  · have w := Wf.2.2.2.2.2.2.1 k (by simpa [hrp] using h1) h2
    simp [hrp]
    split <;> omega
  · have w := Wf.2.2.2.2.2.2.2 i (by simpa [hrp] using h1) h2
    simp [hrp]
    exact ⟨w.1, fun _ => w.2.1, w.2.2⟩
theorem wf_hr {G : NB} {N M : Nat} (Wf : WF N G) (hM : N + 1 ≤ M) (hM2 : M ≤ 536870912) : WF M (hr G) := by
  have w := wf_mono (wf_hrp Wf (G 0 0)) (by omega) hM2
  have c := Wf.2.1
  have f : ∀ p i, p ≠ 0 → hr G p i = hrp G (G 0 0) p i := fun p i hp => by simp [hr, setN_app, hp]
  have f0 : ∀ i, i ≠ 3 → hr G 0 i = hrp G (G 0 0) 0 i := fun i hi => by simp [hr, setN_app, hi]
  refine ⟨hM2, ?_, fun h h1 h2 => ?_, fun k hk => ?_, fun k hk => ?_, fun i hi => ?_, fun k h1 h2 => ?_, fun i h1 h2 => ?_⟩
  · have w1 := w.2.1
    rw [f0 0 (by decide), f0 1 (by decide), f0 2 (by decide)]
    refine ⟨w1.1, w1.2.1, w1.2.2.1, w1.2.2.2.1, w1.2.2.2.2.1, ?_⟩
    simp [hr, setN_app]; omega
  · simpa only [f _ _ (show 1 ≠ 0 by decide), f _ _ (show 2 ≠ 0 by decide)] using w.2.2.1 h h1 h2
  · simpa only [f _ _ (show 3 ≠ 0 by decide), f _ _ (show 4 ≠ 0 by decide), f _ _ (show 5 ≠ 0 by decide), f _ _ (show 6 ≠ 0 by decide)] using w.2.2.2.1 k hk
  · simpa only [f _ _ (show 3 ≠ 0 by decide), f _ _ (show 4 ≠ 0 by decide)] using w.2.2.2.2.1 k (by rw [f0 0 (by decide)] at hk; exact hk)
  · simpa only [f _ _ (show 7 ≠ 0 by decide), f _ _ (show 8 ≠ 0 by decide), f _ _ (show 9 ≠ 0 by decide), f _ _ (show 10 ≠ 0 by decide)] using w.2.2.2.2.2.1 i hi
  · simpa only [f _ _ (show 5 ≠ 0 by decide), f _ _ (show 6 ≠ 0 by decide)] using w.2.2.2.2.2.2.1 k (by rw [f0 0 (by decide)] at h1; exact h1) h2
  · simpa only [f _ _ (show 7 ≠ 0 by decide), f _ _ (show 8 ≠ 0 by decide), f _ _ (show 9 ≠ 0 by decide), f _ _ (show 10 ≠ 0 by decide)] using w.2.2.2.2.2.2.2 i (by rw [f0 0 (by decide)] at h1; exact h1) h2
theorem cl_hour_loop {G : NB} {N : Nat} (Wf : WF N G) : ∀ (d j n : Nat) (σ : Blk), j + d = G 0 0 → d < n → Cls σ (hrp G j) → ∃ σ', f_X4_letHourPass_L4 n σ (nI (ovr G j)) (nI j) = some (nI (ovr G (G 0 0)), σ') ∧ Cls σ' (hr G) := by
  have hm := Wf.2.1.1
  intro d
  induction d with
  | zero =>
    intro j n σ hj hn C
    obtain ⟨n, rfl⟩ : ∃ m, n = m + 1 := ⟨n - 1, by omega⟩
    have hj' : j = G 0 0 := by omega
    have c0 : σ 0 0 = nI (G 0 0) := C.1 0 (by decide)
    have c3 : σ 0 3 = nI (G 0 3) := C.1 3 (by decide)
    rw [f_X4_letHourPass_L4, c0, if_pos (nI_le (by omega) (by omega)), hj']
    refine ⟨_, rfl, ?_⟩
    rw [hj'] at C
    refine ⟨fun i hi => ?_, fun h h1 h2 => ?_, fun h h1 h2 => ?_, fun k hk => ?_, fun i hi => ?_⟩
    · have ci := C.1 i hi
      rw [up_app]
      by_cases a : i = 3
      · subst a
        rw [if_pos ⟨rfl, rfl⟩, c3, nI_1]
        simp [hr, setN_app]
      · rw [if_neg (by simp [a]), ci]
        simp [hr, setN_app, a]
    · simpa [up_app, hr, setN_app] using C.2.1 h h1 h2
    · simpa [up_app, hr, setN_app] using C.2.2.1 h h1 h2
    · simpa [up_app, hr, setN_app] using C.2.2.2.1 k hk
    · simpa [up_app, hr, setN_app] using C.2.2.2.2 i hi
  | succ d ih =>
    intro j n σ hj hn C
    obtain ⟨n, rfl⟩ : ∃ m, n = m + 1 := ⟨n - 1, by omega⟩
    have hj12 : j < 12 := by omega
    have c0 : σ 0 0 = nI (G 0 0) := C.1 0 (by decide)
    rw [f_X4_letHourPass_L4, c0, if_neg (nI_ge (by omega) (by omega)), cl_ur C (wf_hrp Wf j) hj12, Option.bind_some]
    have h6 : hrp G j 6 j = G 6 j := by simp [hrp]
    rw [h6]
    have w6 := (Wf.2.2.2.1 j hj12).2.2.2
    by_cases a : 0 < G 6 j
    · rw [if_pos (by simp [a])]
      have s6 : σ 6 j = nI (G 6 j) := by rw [(C.2.2.2.1 j hj12).2.2.2, h6]
      rw [add_k hj12 (by decide), s6, show (-1 : Int32) = -(nI 1) by decide, nI_addneg (by omega), Option.bind_some]
      simp only [lt]
      have C1 : Cls (upR σ 6 (upd (σ 6) j (nI (G 6 j - 1)))) (setN (hrp G j) 6 j (G 6 j - 1)) := by
        refine ⟨fun i hi => ?_, fun h h1 h2 => ?_, fun h h1 h2 => ?_, fun k hk => ?_, fun i hi => ?_⟩
        · simpa [upR_app, setN_app] using C.1 i hi
        · simpa [upR_app, setN_app] using C.2.1 h h1 h2
        · simpa [upR_app, setN_app] using C.2.2.1 h h1 h2
        · have ck := C.2.2.2.1 k hk
          by_cases e : k = j
          · subst e
            simp [upR_app, upd_app, setN_app, ck]
          · simpa [upR_app, upd_app, setN_app, e] using ck
        · simpa [upR_app, setN_app] using C.2.2.2.2 i hi
      have ur : f_X4_isUnderRepair (upR σ 6 (upd (σ 6) j (nI (G 6 j - 1)))) (nI j) = some (decide (0 < G 6 j - 1)) := by
        unfold f_X4_isUnderRepair
        rw [at_k hj12 (by decide), upR_app, if_pos rfl, upd_app, if_pos rfl, Option.bind_some]
        by_cases h : 0 < G 6 j - 1
        · rw [if_neg (nI_nle h (by omega))]; simp [h]
        · rw [if_pos (by rw [show G 6 j - 1 = 0 by omega]; decide)]; simp [h]
      rw [ur, Option.bind_some, nI_1]
      by_cases b : G 6 j = 1
      · rw [if_neg (by simp [b])]
        obtain ⟨σ2, h2, C2⟩ := cl_ens C1 hj12
        rw [h2, Option.bind_some, nI_1, show ovr G j + 1 = ovr G (j + 1) by simp [ovr, b]]
        refine ih (j + 1) n σ2 (by omega) (by omega) (C2.cong fun p i => ?_)
        simp only [ens, setN_app, hrp]
        by_cases p8 : p = 8
        · subst p8
          by_cases q : j * 4 ≤ i ∧ i < j * 4 + 4
          · have hq : i / 4 = j := by omega
            simp [q, hq, b]
          · have hq : ¬ i / 4 = j := by omega
            simp only [q, and_false, if_false, true_and, false_and, show ¬ (8 = 6) by decide]
            by_cases r : i / 4 < j ∧ G 6 (i / 4) = 1
            · rw [if_pos r, if_pos (by omega)]
            · rw [if_neg r, if_neg (fun c => r ⟨by omega, c.2⟩)]
        · by_cases p6 : p = 6
          · subst p6
            by_cases e : i = j
            · subst e; simp
            · by_cases l : i < j
              · simp [e, l, show i < j + 1 by omega]
              · simp [e, l, show ¬ i < j + 1 by omega]
          · simp [p8, p6]
      · rw [if_pos (by simp; omega), show ovr G j = ovr G (j + 1) by simp [ovr, b]]
        refine ih (j + 1) n _ (by omega) (by omega) (C1.cong fun p i => ?_)
        simp only [setN_app, hrp]
        by_cases p8 : p = 8
        · subst p8
          simp only [show ¬ (8 = 6) by decide, false_and, if_false, true_and]
          by_cases r : i / 4 < j ∧ G 6 (i / 4) = 1
          · rw [if_pos r, if_pos (by omega)]
          · rw [if_neg r, if_neg (fun c => by
              by_cases e : i / 4 = j
              · rw [e] at c; exact b c.2
              · exact r ⟨by omega, c.2⟩)]
        · by_cases p6 : p = 6
          · subst p6
            by_cases e : i = j
            · subst e; simp
            · by_cases l : i < j
              · simp [e, l, show i < j + 1 by omega]
              · simp [e, l, show ¬ i < j + 1 by omega]
          · simp [p8, p6]
    · have z : G 6 j = 0 := by omega
      rw [if_neg (by simp [a]), nI_1, show ovr G j = ovr G (j + 1) by simp [ovr, z]]
      refine ih (j + 1) n σ (by omega) (by omega) (C.cong fun p i => ?_)
      simp only [hrp]
      by_cases p8 : p = 8
      · subst p8
        simp only [show ¬ (8 = 6) by decide, false_and, if_false, true_and]
        by_cases r : i / 4 < j ∧ G 6 (i / 4) = 1
        · rw [if_pos r, if_pos (by omega)]
        · rw [if_neg r, if_neg (fun c => by
            by_cases e : i / 4 = j
            · rw [e] at c; omega
            · exact r ⟨by omega, c.2⟩)]
      · by_cases p6 : p = 6
        · subst p6
          by_cases e : i = j
          · subst e; simp [z]
          · by_cases l : i < j
            · simp [l, show i < j + 1 by omega]
            · simp [l, show ¬ i < j + 1 by omega]
        · simp [p8, p6]
theorem FU_big {d : Nat} (h : d < 2 ^ 31) : d < FU := by
  have : FU = 4294967296 := rfl
  omega
theorem cl_hour {σ : Blk} {G : NB} {N : Nat} (C : Cls σ G) (Wf : WF N G) : ∃ σ', f_X4_letHourPass σ = some (nI (ovr G (G 0 0)), σ') ∧ Cls σ' (hr G) := by
  unfold f_X4_letHourPass
  have hm := Wf.2.1.1
  exact cl_hour_loop Wf (G 0 0) 0 FU σ (by omega) (FU_big (by omega)) (C.cong fun p i => by simp [hrp])
theorem ovr_le (G : NB) : ∀ j, ovr G j ≤ j
  | 0 => Nat.le_refl _
  | j + 1 => by
    have := ovr_le G j
    simp only [ovr]
    split <;> omega
