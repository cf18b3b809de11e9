/-! the class: people pass, hours pass -/
theorem mvO_app {G : NB} {h n : Nat} (q j : Nat) : mvO G h n q j = if h ≠ 0 ∧ q = 2 ∧ j = h then G 2 h - n else G q j := by
  unfold mvO
  by_cases z : h = 0
  · simp [z]
  · simp [z, setN_app]
theorem mvI_app {G : NB} {h n : Nat} (q j : Nat) : mvI G h n q j = if h ≠ 0 ∧ q = 2 ∧ j = h then G 2 h + n else G q j := by
  unfold mvI
  by_cases z : h = 0
  · simp [z]
  · simp [z, setN_app]
theorem cl_mvO {σ : Blk} {G : NB} (C : Cls σ G) {h n : Nat} (hh : h < 6) (hn : h ≠ 0 → n ≤ G 2 h) : ∃ σ', f_X4_moveTo σ (nI h) (-(nI n)) = some σ' ∧ Cls σ' (mvO G h n) := by
  unfold f_X4_moveTo lt
  by_cases z : h = 0
  · subst z
    exact ⟨σ, by rw [if_pos (by decide)], C⟩
  · rw [if_neg (nI_ne0 (by omega) (by omega)), add_k hh (by decide), Option.bind_some]
    refine ⟨_, rfl, ?_⟩
    refine ⟨fun j hj => ?_, fun j h1 h2 => ?_, fun j h1 h2 => ?_, fun k hk => ?_, fun j hj => ?_⟩
    · simpa [upR_app, mvO_app] using C.1 j hj
    · simpa [upR_app, mvO_app] using C.2.1 j h1 h2
    · have c := C.2.2.1 j h1 h2
      by_cases e : j = h
      · subst e
        simp [upR_app, upd_app, mvO_app, z, c, nI_addneg (hn z)]
      · simp [upR_app, upd_app, mvO_app, e, c]
    · simpa [upR_app, mvO_app] using C.2.2.2.1 k hk
    · simpa [upR_app, mvO_app] using C.2.2.2.2 j hj
theorem cl_mvI {σ : Blk} {G : NB} (C : Cls σ G) {h n : Nat} (hh : h < 6) : ∃ σ', f_X4_moveTo σ (nI h) (nI n) = some σ' ∧ Cls σ' (mvI G h n) := by
  unfold f_X4_moveTo lt
  by_cases z : h = 0
  · subst z
    exact ⟨σ, by rw [if_pos (by decide)], C⟩
  · rw [if_neg (nI_ne0 (by omega) (by omega)), add_k hh (by decide), Option.bind_some]
    refine ⟨_, rfl, ?_⟩
    refine ⟨fun j hj => ?_, fun j h1 h2 => ?_, fun j h1 h2 => ?_, fun k hk => ?_, fun j hj => ?_⟩
    · simpa [upR_app, mvI_app] using C.1 j hj
    · simpa [upR_app, mvI_app] using C.2.1 j h1 h2
    · have c := C.2.2.1 j h1 h2
      by_cases e : j = h
      · subst e
        simp [upR_app, upd_app, mvI_app, z, c, nI_add]
      · simp [upR_app, upd_app, mvI_app, e, c]
    · simpa [upR_app, mvI_app] using C.2.2.2.1 k hk
    · simpa [upR_app, mvI_app] using C.2.2.2.2 j hj
def can (G : NB) (k : Nat) (ff : Bool) (n : Nat) : Prop := (hb G k ff ≠ 0 → n ≤ G 2 (hb G k ff)) ∧ (ha G k ff ≠ 0 → G 2 (ha G k ff) + n ≤ G 1 (ha G k ff))
theorem can_why {G : NB} {k n : Nat} {ff : Bool} (h : why G k ff n = 0) : can G k ff n := by
  unfold why at h
  split at h
  · omega
  · split at h
    · omega
    · split at h
      · omega
      · split at h
        · omega
        · rename_i h3 h4
          exact ⟨fun z => by by_cases c : G 2 (hb G k ff) < n; exact absurd ⟨z, c⟩ h3; omega, fun z => by by_cases c : G 1 (ha G k ff) < G 2 (ha G k ff) + n; exact absurd ⟨z, c⟩ h4; omega⟩
theorem can_most {G : NB} {N k bd n : Nat} {ff : Bool} (Wf : WF N G) (hk : k < 12) (h : n ≤ most G k ff bd) : can G k ff n := by
  obtain ⟨h1, h2⟩ := hb_lt Wf hk ff
  unfold most at h
  split at h
  · have e : n = 0 := by omega
    subst e
    exact ⟨fun _ => Nat.zero_le _, fun z => by have := Wf.2.2.1 _ (by omega) h2; omega⟩
  · refine ⟨fun z => ?_, fun z => ?_⟩
    · rw [if_neg z] at h; omega
    · have := Wf.2.2.1 _ (by omega) h2
      rw [if_neg z] at h; omega
theorem ne_ha {G : NB} {N : Nat} (Wf : WF N G) {k : Nat} (hk : k < G 0 0) (ff : Bool) : hb G k ff ≠ ha G k ff := by
  have h := Wf.2.2.2.2.1 k hk
  cases ff
  · exact fun c => h c.symm
  · exact h
theorem wf_mv {G : NB} {N : Nat} (Wf : WF N G) {k n : Nat} {ff : Bool} (hk : k < G 0 0) (hc : can G k ff n) : WF N (mvO G (hb G k ff) n) ∧ WF N (mvI (mvO G (hb G k ff) n) (ha G k ff) n) := by
  have hne := ne_ha Wf hk ff
  have key : ∀ G' : NB, (∀ p j, p ≠ 2 → G' p j = G p j) → (∀ h, 1 ≤ h → h < 6 → G' 2 h ≤ G 1 h) → WF N G' := by
    intro G' h1 h2
    have g := fun p j (hp : p ≠ 2) => h1 p j hp
    refine ⟨Wf.1, ?_, fun h ha hb => ?_, fun k hk => ?_, fun k hk => ?_, fun j hj => ?_, fun k ha hb => ?_, fun j ha hb => ?_⟩
    · simpa only [g 0 _ (by decide)] using Wf.2.1
    · have w := Wf.2.2.1 h ha hb
      have w2 := h2 h ha hb
      simp only [g 1 _ (by decide)]
      omega
    · simpa only [g 3 _ (by decide), g 4 _ (by decide), g 5 _ (by decide), g 6 _ (by decide)] using Wf.2.2.2.1 k hk
    · simp only [g 0 _ (by decide)] at hk
      simpa only [g 3 _ (by decide), g 4 _ (by decide)] using Wf.2.2.2.2.1 k hk
    · simpa only [g 7 _ (by decide), g 8 _ (by decide), g 9 _ (by decide), g 10 _ (by decide)] using Wf.2.2.2.2.2.1 j hj
    · simp only [g 0 _ (by decide)] at ha
      simpa only [g 5 _ (by decide), g 6 _ (by decide)] using Wf.2.2.2.2.2.2.1 k ha hb
    · simp only [g 0 _ (by decide)] at ha
      simpa only [g 7 _ (by decide), g 8 _ (by decide), g 9 _ (by decide), g 10 _ (by decide)] using Wf.2.2.2.2.2.2.2 j ha hb
  constructor
  · refine key _ (fun p j hp => by rw [mvO_app, if_neg (fun c => hp c.2.1)]) (fun h h1 h2 => ?_)
    have w := Wf.2.2.1 h h1 h2
    rw [mvO_app]
    split
    · rename_i c
      rw [← c.2.2]; omega
    · omega
  · refine key _ (fun p j hp => by rw [mvI_app, if_neg (fun c => hp c.2.1), mvO_app, if_neg (fun c => hp c.2.1)]) (fun h h1 h2 => ?_)
    have w := Wf.2.2.1 h h1 h2
    rw [mvI_app]
    split
    · rename_i c
      rw [mvO_app, if_neg (fun d => hne d.2.2.symm)]
      have := hc.2 c.1
      rw [← c.2.2] at this
      rw [← c.2.2]; exact this
    · rw [mvO_app]
      split
      · rename_i c
        rw [← c.2.2]; omega
      · omega
theorem hb_of {G G' : NB} {k : Nat} {ff : Bool} (h3 : G' 3 k = G 3 k) (h4 : G' 4 k = G 4 k) : hb G' k ff = hb G k ff ∧ ha G' k ff = ha G k ff := by
  unfold hb ha
  rw [h3, h4]
  exact ⟨rfl, rfl⟩
theorem wf_pas {G : NB} {N : Nat} (Wf : WF N G) {k n M : Nat} {ff : Bool} (hk : k < G 0 0) (hc : can G k ff n) (hM : N + 2 * n ≤ M) (hM2 : M ≤ 536870912) : WF M (pas G k ff n) := by
  obtain ⟨-, w2⟩ := wf_mv Wf hk hc
  have hm : mvI (mvO G (hb G k ff) n) (ha G k ff) n 0 0 = G 0 0 := by simp [mvI_app, mvO_app]
  unfold pas
  refine wf_see (N := N + n) (n := n) (wf_see (n := n) w2 ?_ (Nat.le_refl _) (by omega)) ?_ (by omega) hM2
  · rw [hm]; cases ff <;> simp <;> omega
  · rw [show see (mvI (mvO G (hb G k ff) n) (ha G k ff) n) (k * 4 + cond ff 0 2) n 0 0 = G 0 0 by simp [see, setN_app, hm]]
    cases ff <;> simp <;> omega
theorem cl_pas {σ : Blk} {G : NB} {N : Nat} (C : Cls σ G) (Wf : WF N G) (hN : N + 100 ≤ 536870912) {k n : Nat} {ff : Bool} (hk : k < G 0 0) (hn : n ≤ 99) (hc : can G k ff n) : ∃ σ', f_X4_letThrough σ (nI k) ff (nI n) = some σ' ∧ Cls σ' (pas G k ff n) := by
  have hk12 : k < 12 := by have := Wf.2.1.1; omega
  obtain ⟨h1, h2⟩ := hb_lt Wf hk12 ff
  obtain ⟨w1, w2⟩ := wf_mv Wf hk hc
  obtain ⟨σ1, e1', C1⟩ := cl_mvO C (n := n) h1 hc.1
  have e34 : hb (mvO G (hb G k ff) n) k ff = hb G k ff ∧ ha (mvO G (hb G k ff) n) k ff = ha G k ff := hb_of (by simp [mvO_app]) (by simp [mvO_app])
  obtain ⟨σ2, e2', C2⟩ := cl_mvI C1 (n := n) h2
  have hm : mvI (mvO G (hb G k ff) n) (ha G k ff) n 0 0 = G 0 0 := by simp [mvI_app, mvO_app]
  have hi1 : k * 4 + cond ff 0 2 < 48 := by cases ff <;> simp <;> omega
  have hi2 : k * 4 + cond ff 3 1 < 48 := by cases ff <;> simp <;> omega
  obtain ⟨σ3, e3', C3⟩ := cl_see C2 w2 (n := n) hi1 hn
  have w3 := wf_see (n := n) (M := N + n) w2 (i := k * 4 + cond ff 0 2) (by rw [hm]; cases ff <;> simp <;> omega) (Nat.le_refl _) (by omega)
  obtain ⟨σ4, e4', C4⟩ := cl_see C3 w3 (n := n) hi2 hn
  refine ⟨σ4, ?_, C4⟩
  unfold f_X4_letThrough
  rw [cl_hb C hk12, Option.bind_some, e1', Option.bind_some, cl_ha C1 hk12, e34.2, Option.bind_some, e2', Option.bind_some]
  cases ff
  · simp only [Bool.false_eq_true, if_false, lt, e0, e1, e2, e3, ci_k]
    simp only [cond] at e3' e4'
    rw [e3', Option.bind_some, e4', Option.bind_some]
  · simp only [if_true, lt, e0, e1, e2, e3, ci_k]
    simp only [cond] at e3' e4'
    rw [e3', Option.bind_some, e4', Option.bind_some]
