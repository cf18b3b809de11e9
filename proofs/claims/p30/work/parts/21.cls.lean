/-! the class's small methods over the picture -/
theorem Cls.w {σ : Blk} {G : NB} {N : Nat} (C : Cls σ G) (Wf : WF N G) : True := trivial
theorem cl_countOf {σ : Blk} {G : NB} (C : Cls σ G) {k c : Nat} (hk : k < 12) (hc : c < 4) : f_X1_countOf σ (nI k) (nI c) = some (nI (G 7 (k * 4 + c))) := by
  unfold f_X1_countOf lt
  simp only [ci_k]
  rw [at_k (by omega) (by decide), (C.2.2.2.2 (k * 4 + c) (by omega)).1]
  rfl
theorem cl_gap {σ : Blk} {G : NB} {N : Nat} (C : Cls σ G) (Wf : WF N G) {k : Nat} (hk : k < 12) : f_X1_gapOf σ (nI k) = some (nI (gap G k)) := by
  unfold f_X1_gapOf
  have w0 := (Wf.2.2.2.2.2.1 (k * 4 + 0) (by omega)).1
  have w1 := (Wf.2.2.2.2.2.1 (k * 4 + 1) (by omega)).1
  have w2 := (Wf.2.2.2.2.2.1 (k * 4 + 2) (by omega)).1
  have w3 := (Wf.2.2.2.2.2.1 (k * 4 + 3) (by omega)).1
  have wN := Wf.1
  simp only [e0, e1, e2, e3, cl_countOf C hk (show 0 < 4 by decide), cl_countOf C hk (show 1 < 4 by decide), cl_countOf C hk (show 2 < 4 by decide), cl_countOf C hk (show 3 < 4 by decide), Option.bind_some]
  rw [nI_absd (by omega) (by omega), nI_absd (by omega) (by omega), nI_add]
  rfl
theorem cl_has {σ : Blk} {G : NB} {N : Nat} (C : Cls σ G) (Wf : WF N G) (v : Int32) : f_X4_hasStile σ v = true ↔ ∃ k : Nat, k < G 0 0 ∧ v = nI k := by
  unfold f_X4_hasStile
  have hm := Wf.2.1.1
  rw [C.1 0 (by decide)]
  constructor
  · intro h
    by_cases h1 : v < 0
    · rw [if_pos h1] at h; cases h
    · rw [if_neg h1] at h
      by_cases h2 : nI (G 0 0) ≤ v
      · rw [if_pos h2] at h; cases h
      · obtain ⟨j, hj, rfl, -⟩ := pk_mu h1 h2 (by omega)
        exact ⟨j, hj, rfl⟩
  · rintro ⟨k, hk, rfl⟩
    rw [if_neg (nI_pos (by omega)), if_neg (nI_ge hk (by omega))]
theorem cl_has_t {σ : Blk} {G : NB} {N : Nat} (C : Cls σ G) (Wf : WF N G) {k : Nat} (hk : k < G 0 0) : f_X4_hasStile σ (nI k) = true := (cl_has C Wf _).mpr ⟨k, hk, rfl⟩
theorem cl_hb {σ : Blk} {G : NB} (C : Cls σ G) {k : Nat} (hk : k < 12) (ff : Bool) : f_X4_hallBehind σ (nI k) ff = some (nI (hb G k ff)) := by
  unfold f_X4_hallBehind hb
  rw [at_k hk (by decide), at_k hk (by decide), (C.2.2.2.1 k hk).1, (C.2.2.2.1 k hk).2.1]
  cases ff <;> rfl
theorem cl_ha {σ : Blk} {G : NB} (C : Cls σ G) {k : Nat} (hk : k < 12) (ff : Bool) : f_X4_hallAhead σ (nI k) ff = some (nI (ha G k ff)) := by
  unfold f_X4_hallAhead ha
  rw [cl_hb C hk, cl_hb C hk]
  cases ff <;> rfl
theorem nI_z {a : Nat} (ha : a < 2 ^ 31) : nI a = nI 0 ↔ a = 0 := nI_eq ha (by decide)
theorem cl_goes {σ : Blk} {G : NB} {N : Nat} (C : Cls σ G) (Wf : WF N G) {k : Nat} (hk : k < 12) (ff : Bool) : f_X4_goes σ (nI k) ff = some (gos G k ff) := by
  unfold f_X4_goes gos
  have h5 := (Wf.2.2.2.1 k hk).2.2.1
  rw [at_k hk (by decide), (C.2.2.2.1 k hk).2.2.1]
  simp only [Option.bind_some, e0, e1, e2]
  simp (disch := omega) only [nI_eq]
  cases ff
  · by_cases a : G 5 k = 0
    · simp [a]
    · by_cases b : G 5 k = 2 <;> simp [a, b]
  · by_cases a : G 5 k = 0
    · simp [a]
    · by_cases b : G 5 k = 1 <;> simp [a, b]
theorem cl_ur {σ : Blk} {G : NB} {N : Nat} (C : Cls σ G) (Wf : WF N G) {k : Nat} (hk : k < 12) : f_X4_isUnderRepair σ (nI k) = some (decide (0 < G 6 k)) := by
  unfold f_X4_isUnderRepair
  have h6 := (Wf.2.2.2.1 k hk).2.2.2
  rw [at_k hk (by decide), (C.2.2.2.1 k hk).2.2.2]
  simp only [Option.bind_some, e0]
  by_cases h : 0 < G 6 k
  · rw [if_neg (nI_ge h (by omega))]
    simp [h]
  · rw [if_pos (nI_le (by omega) (by decide))]
    simp [h]
theorem cl_ready {σ : Blk} {G : NB} {N : Nat} (C : Cls σ G) (Wf : WF N G) {h : Nat} (hh : h < 6) : f_X4_readyToLeave σ (nI h) = some (nI (if h = 0 then 99 else min 99 (G 2 h))) := by
  unfold f_X4_readyToLeave
  simp only [e0, e99]
  by_cases z : h = 0
  · subst z; rfl
  · have hp := Wf.2.2.1 h (by omega) hh
    rw [if_neg (fun c => z ((nI_eq (by omega) (by decide)).mp c)), at_k hh (by decide), C.2.2.1 h (by omega) hh, Option.bind_some, nI_min (by decide) (by omega), if_neg z]
theorem cl_left {σ : Blk} {G : NB} {N : Nat} (C : Cls σ G) (Wf : WF N G) {h : Nat} (hh : h < 6) : f_X4_roomLeft σ (nI h) = some (nI (if h = 0 then 99 else min 99 (G 1 h - G 2 h))) := by
  unfold f_X4_roomLeft
  simp only [e0, e99]
  by_cases z : h = 0
  · subst z; rfl
  · have hp := Wf.2.2.1 h (by omega) hh
    rw [if_neg (fun c => z ((nI_eq (by omega) (by decide)).mp c)), at_k hh (by decide), at_k hh (by decide), C.2.2.1 h (by omega) hh, C.2.1 h (by omega) hh]
    simp only [Option.bind_some]
    rw [nI_sub (by omega), nI_min (by decide) (by omega), if_neg z]
theorem hb_lt {G : NB} {N : Nat} (Wf : WF N G) {k : Nat} (hk : k < 12) (ff : Bool) : hb G k ff < 6 ∧ ha G k ff < 6 := by
  have h := Wf.2.2.2.1 k hk
  cases ff
  · exact ⟨h.2.1, h.1⟩
  · exact ⟨h.1, h.2.1⟩
theorem cl_why {σ : Blk} {G : NB} {N : Nat} (C : Cls σ G) (Wf : WF N G) {k n : Nat} (hk : k < 12) (hn : n ≤ 99) (ff : Bool) : f_X4_whyNot σ (nI k) ff (nI n) = some (nI (why G k ff n)) := by
  unfold f_X4_whyNot why
  obtain ⟨h1, h2⟩ := hb_lt Wf hk ff
  rw [cl_ur C Wf hk, Option.bind_some, cl_goes C Wf hk, cl_hb C hk, cl_ha C hk]
  by_cases a : 0 < G 6 k
  · simp [a, e1]
  · rw [if_neg (by simp [a]), if_neg a]
    simp only [Option.bind_some]
    cases gg : gos G k ff with
    | false => simp [e2]
    | true =>
      rw [cl_ready C Wf h1, cl_left C Wf h2]
      simp only [Option.bind_some, if_true, Bool.true_eq_false, if_false]
      have hpb : hb G k ff ≠ 0 → G 2 (hb G k ff) ≤ 500 := fun z => by have := Wf.2.2.1 _ (by omega) h1; omega
      have hpa : ha G k ff ≠ 0 → G 1 (ha G k ff) ≤ 500 ∧ G 2 (ha G k ff) ≤ G 1 (ha G k ff) := fun z => by have := Wf.2.2.1 _ (by omega) h2; omega
      have hr : (if hb G k ff = 0 then 99 else min 99 (G 2 (hb G k ff))) < 2 ^ 31 := by split <;> omega
      have hl : (if ha G k ff = 0 then 99 else min 99 (G 1 (ha G k ff) - G 2 (ha G k ff))) < 2 ^ 31 := by split <;> omega
      simp only [nI_leI (show n < 2 ^ 31 by omega) hr, nI_leI (show n < 2 ^ 31 by omega) hl]
      by_cases b : hb G k ff = 0
      · by_cases c : ha G k ff = 0
        · simp only [b, c, if_true, ne_eq, not_true, false_and, if_false]
          repeat' split
          all_goals first | rfl | omega
        · have := hpa c
          simp only [b, c, if_true, ne_eq, not_true, not_false_eq_true, false_and, true_and, if_false]
          repeat' split
          all_goals first | rfl | omega
      · have := hpb b
        by_cases c : ha G k ff = 0
        · simp only [b, c, if_true, ne_eq, not_true, not_false_eq_true, false_and, true_and, if_false]
          repeat' split
          all_goals first | rfl | omega
        · have := hpa c
          simp only [b, c, if_true, ne_eq, not_true, not_false_eq_true, false_and, true_and, if_false]
          repeat' split
          all_goals first | rfl | omega
theorem cl_most {σ : Blk} {G : NB} {N : Nat} (C : Cls σ G) (Wf : WF N G) {k : Nat} (hk : k < 12) (ff : Bool) : f_X4_mostThrough σ (nI k) ff = some (nI (most G k ff 99)) := by
  unfold f_X4_mostThrough most opn
  obtain ⟨h1, h2⟩ := hb_lt Wf hk ff
  rw [cl_ur C Wf hk, Option.bind_some, cl_goes C Wf hk, cl_hb C hk, cl_ha C hk]
  by_cases a : 0 < G 6 k
  · have : ¬ G 6 k = 0 := by omega
    simp [a, this, e0]
  · have a0 : G 6 k = 0 := by omega
    rw [if_neg (by simp [a])]
    simp only [Option.bind_some, a0, decide_true, Bool.true_and]
    cases gg : gos G k ff with
    | false => simp [e0]
    | true =>
      rw [cl_ready C Wf h1, cl_left C Wf h2]
      have hpb : hb G k ff ≠ 0 → G 2 (hb G k ff) ≤ 500 := fun z => by have := Wf.2.2.1 _ (by omega) h1; omega
      have hpa : ha G k ff ≠ 0 → G 1 (ha G k ff) ≤ 500 ∧ G 2 (ha G k ff) ≤ G 1 (ha G k ff) := fun z => by have := Wf.2.2.1 _ (by omega) h2; omega
      simp only [Option.bind_some, if_true]
      have hr : (if hb G k ff = 0 then 99 else min 99 (G 2 (hb G k ff))) < 2 ^ 31 := by split <;> omega
      have hl : (if ha G k ff = 0 then 99 else min 99 (G 1 (ha G k ff) - G 2 (ha G k ff))) < 2 ^ 31 := by split <;> omega
      rw [nI_min hr hl]
      simp only [Bool.true_eq_false, if_false]
      congr 2
      by_cases b : hb G k ff = 0 <;> by_cases c : ha G k ff = 0 <;> simp only [b, c, if_true, if_false] <;> omega
theorem setN_app (G : NB) (p i v q j : Nat) : setN G p i v q j = if q = p ∧ j = i then v else G q j := rfl
theorem cl_see {σ : Blk} {G : NB} {N : Nat} (C : Cls σ G) (Wf : WF N G) {i n : Nat} (hi : i < 48) (hn : n ≤ 99) : ∃ σ', f_X1_seePeople σ (nI i) (nI n) = some σ' ∧ Cls σ' (see G i n) := by
  have w := Wf.2.2.2.2.2.1 i hi
  have wN := Wf.1
  obtain ⟨c7, c8, c9, c10⟩ := C.2.2.2.2 i hi
  unfold f_X1_seePeople lt
  rw [at_k hi (by decide), c8, Option.bind_some]
  by_cases z : G 8 i = 0
  · rw [if_pos (by rw [z]; decide)]
    rw [e0]
    simp only [add_k hi (show 48 < 2 ^ 31 by decide), Option.bind_some]
    refine ⟨_, rfl, ?_⟩
    refine ⟨fun j hj => ?_, fun h h1 h2 => ?_, fun h h1 h2 => ?_, fun k hk => ?_, fun j hj => ?_⟩
    · simpa [upR_app, see, setN_app] using C.1 j hj
    · simpa [upR_app, see, setN_app] using C.2.1 h h1 h2
    · simpa [upR_app, see, setN_app] using C.2.2.1 h h1 h2
    · simpa [upR_app, see, setN_app] using C.2.2.2.1 k hk
    · have cj := C.2.2.2.2 j hj
      by_cases hji : j = i
      · subst hji
        simp [upR_app, upd_app, see, setN_app, mis, z, c7, c8, c9, c10, nI_add, nI_sub]
      · simpa [upR_app, upd_app, see, setN_app, hji] using cj
  · have zp : 0 < G 8 i := by omega
    have hmod := mis_mod (sn := G 9 i) (sl := G 8 i) (n := n) zp
    rw [if_neg (nI_nle zp (by omega)), at_k hi (by decide), c9, if_neg z, Option.bind_some]
    have nz : ¬ nI (G 8 i) = 0 := nI_ne0 zp (by omega)
    have b1 : G 9 i % G 8 i < G 8 i := Nat.mod_lt _ zp
    rw [if_pos nz, if_pos nz, nI_add, nI_div (by omega) zp (by omega), nI_rem (by omega) zp (by omega), hmod.1, hmod.2]
    have hm : (G 9 i + n) / G 8 i - G 9 i / G 8 i = mis G i n := by unfold mis; rw [if_neg z]
    rw [hm]
    have hml := mis_le (G := G) (i := i) (n := n)
    simp only [put_k hi (show 48 < 2 ^ 31 by decide), add_k hi (show 48 < 2 ^ 31 by decide), Option.bind_some]
    refine ⟨_, rfl, ?_⟩
    refine ⟨fun j hj => ?_, fun h h1 h2 => ?_, fun h h1 h2 => ?_, fun k hk => ?_, fun j hj => ?_⟩
    · simpa [upR_app, see, setN_app] using C.1 j hj
    · simpa [upR_app, see, setN_app] using C.2.1 h h1 h2
    · simpa [upR_app, see, setN_app] using C.2.2.1 h h1 h2
    · simpa [upR_app, see, setN_app] using C.2.2.2.1 k hk
    · have cj := C.2.2.2.2 j hj
      by_cases hji : j = i
      · subst hji
        simp [upR_app, upd_app, see, setN_app, z, c7, c8, c9, c10, nI_add, nI_sub hml]
      · simpa [upR_app, upd_app, see, setN_app, hji] using cj
theorem wf_see {G : NB} {N : Nat} (Wf : WF N G) {i n M : Nat} (hi : i < G 0 0 * 4) (hM : N + n ≤ M) (hM2 : M ≤ 536870912) : WF M (see G i n) := by
  have hml := mis_le (G := G) (i := i) (n := n)
  have hm := Wf.2.1
  refine ⟨hM2, ?_, fun h h1 h2 => ?_, fun k hk => ?_, fun k hk => ?_, fun j hj => ?_, fun k h1 h2 => ?_, fun j h1 h2 => ?_⟩
  · simp [see, setN_app]; omega
  · simpa [see, setN_app] using Wf.2.2.1 h h1 h2
  · simpa [see, setN_app] using Wf.2.2.2.1 k hk
  · simpa [see, setN_app] using Wf.2.2.2.2.1 k (by simpa [see, setN_app] using hk)
  · have w := Wf.2.2.2.2.2.1 j hj
    by_cases hji : j = i
    · subst hji
      simp [see, setN_app]; omega
    · simp [see, setN_app, hji]; omega
  · simpa [see, setN_app] using Wf.2.2.2.2.2.2.1 k (by simpa [see, setN_app] using h1) h2
  · have h3 : G 0 0 * 4 ≤ j := by simpa [see, setN_app] using h1
    have hji : ¬ j = i := by omega
    simpa [see, setN_app, hji] using Wf.2.2.2.2.2.2.2 j h3 h2
theorem wf_mono {G : NB} {N M : Nat} (Wf : WF N G) (hM : N ≤ M) (hM2 : M ≤ 536870912) : WF M G := by
  refine ⟨hM2, ⟨Wf.2.1.1, Wf.2.1.2.1, Wf.2.1.2.2.1, Wf.2.1.2.2.2.1, Wf.2.1.2.2.2.2.1, by have := Wf.2.1.2.2.2.2.2; omega⟩, Wf.2.2.1, Wf.2.2.2.1, Wf.2.2.2.2.1, fun j hj => ?_, Wf.2.2.2.2.2.2⟩
  have w := Wf.2.2.2.2.2.1 j hj
  omega
