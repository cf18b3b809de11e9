/-! the class: an hour of closing -/
theorem see_0 (G : NB) (i : Nat) : see G i 0 = G := by
  funext p j
  have hm : mis G i 0 = 0 := by unfold mis; split <;> simp
  simp only [see, setN_app, hm]
  repeat' split
  all_goals first | rfl | (rename_i c; rw [c.1, c.2]; simp) | simp
theorem mvO_0 (G : NB) (h : Nat) : mvO G h 0 = G := by
  funext p j
  rw [mvO_app]
  split
  · rename_i c; rw [c.2.1, c.2.2]; simp
  · rfl
theorem mvI_0 (G : NB) (h : Nat) : mvI G h 0 = G := by
  funext p j
  rw [mvI_app]
  split
  · rename_i c; rw [c.2.1, c.2.2]; simp
  · rfl
theorem pas_0 (G : NB) (k : Nat) (ff : Bool) : pas G k ff 0 = G := by
  unfold pas
  rw [see_0, see_0, mvI_0, mvO_0]
theorem see_keep {G : NB} {i n p : Nat} (hp : p ≠ 7 ∧ p ≠ 9 ∧ p ≠ 10) (j : Nat) : see G i n p j = G p j := by
  simp [see, setN_app, hp]
theorem pas_keep {G : NB} {k n p : Nat} {ff : Bool} (hp : p ≠ 2 ∧ p ≠ 7 ∧ p ≠ 9 ∧ p ≠ 10) (j : Nat) : pas G k ff n p j = G p j := by
  unfold pas
  rw [see_keep ⟨hp.2.1, hp.2.2.1, hp.2.2.2⟩, see_keep ⟨hp.2.1, hp.2.2.1, hp.2.2.2⟩, mvI_app, if_neg (fun c => hp.1 c.2.1), mvO_app, if_neg (fun c => hp.1 c.2.1)]
def lvn (D : Nat → Nat) (G : NB) (k : Nat) (ff : Bool) : Nat := if D (hb G k ff) = D (ha G k ff) + 1 then most G k ff (G 0 1) else 0
def lvs (D : Nat → Nat) (G : NB) (k : Nat) (ff : Bool) : NB := pas G k ff (lvn D G k ff)
theorem most_le (G : NB) (k : Nat) (ff : Bool) (bd : Nat) : most G k ff bd ≤ bd := by
  unfold most
  split
  · omega
  · omega
theorem most_min (G : NB) (k : Nat) (ff : Bool) {r : Nat} (hr : r ≤ 99) : min r (most G k ff 99) = most G k ff r := by
  unfold most
  split
  · omega
  · by_cases b : hb G k ff = 0 <;> by_cases c : ha G k ff = 0 <;> simp only [b, c, if_true, if_false] <;> omega
theorem lvn_le {D : Nat → Nat} {G : NB} {k : Nat} {ff : Bool} : lvn D G k ff ≤ most G k ff (G 0 1) := by
  unfold lvn
  split <;> omega
theorem cl_leave {δ : Row} {σ : Blk} {G : NB} {N : Nat} {D : Nat → Nat} (C : Cls σ G) (Wf : WF N G) (hN : N + 100 ≤ 536870912) (hδ : Dro δ D) {k : Nat} (hk : k < G 0 0) (ff : Bool) : ∃ σ', f_X0_leaveThrough δ σ (nI k) ff = some (nI (lvn D G k ff), σ') ∧ Cls σ' (lvs D G k ff) := by
  have hk12 : k < 12 := by have := Wf.2.1.1; omega
  obtain ⟨h1, h2⟩ := hb_lt Wf hk12 ff
  have db := hδ _ h1
  have da := hδ _ h2
  have r1 := Wf.2.1
  unfold f_X0_leaveThrough
  rw [cl_hb C hk12, Option.bind_some, at_k h1 (by decide), Option.bind_some, cl_ha C hk12, Option.bind_some, at_k h2 (by decide), Option.bind_some, db.1, da.1, nI_1]
  by_cases c : D (hb G k ff) = D (ha G k ff) + 1
  · have el : lvn D G k ff = most G k ff (G 0 1) := by unfold lvn; rw [if_pos c]
    have ml := most_le G k ff (G 0 1)
    rw [if_pos ((nI_eq (by omega) (by omega)).mpr c), cl_most C Wf hk12, Option.bind_some, C.1 1 (by decide), nI_min (by omega) (by have := most_le G k ff 99; omega), most_min G k ff r1.2.2.1]
    unfold lvs
    rw [el]
    by_cases z : most G k ff (G 0 1) = 0
    · rw [if_pos (by rw [z]; decide), z, pas_0]
      exact ⟨σ, rfl, C⟩
    · rw [if_neg (nI_nle (by omega) (by omega))]
      obtain ⟨σ', e, C'⟩ := cl_pas C Wf hN (n := most G k ff (G 0 1)) (ff := ff) hk (by omega) (can_most Wf hk12 (Nat.le_refl _))
      exact ⟨σ', by rw [e]; rfl, C'⟩
  · have el : lvn D G k ff = 0 := by unfold lvn; rw [if_neg c]
    rw [if_neg (fun z => c ((nI_eq (by omega) (by omega)).mp z))]
    unfold lvs
    rw [el, pas_0]
    exact ⟨σ, rfl, C⟩
theorem wf_lvs {G : NB} {N M : Nat} {D : Nat → Nat} (Wf : WF N G) {k : Nat} {ff : Bool} (hk : k < G 0 0) (hM : N + 200 ≤ M) (hM2 : M ≤ 536870912) : WF M (lvs D G k ff) := by
  have hk12 : k < 12 := by have := Wf.2.1.1; omega
  have l1 := lvn_le (D := D) (G := G) (k := k) (ff := ff)
  have l2 := most_le G k ff (G 0 1)
  have r1 := Wf.2.1
  exact wf_pas Wf hk (can_most Wf hk12 l1) (by omega) hM2
theorem lvs_keep {D : Nat → Nat} {G : NB} {k p : Nat} {ff : Bool} (hp : p ≠ 2 ∧ p ≠ 7 ∧ p ≠ 9 ∧ p ≠ 10) (j : Nat) : lvs D G k ff p j = G p j := pas_keep hp j
/-- the state, and how many passed, when the first j stiles have been passed -/
def cll (D : Nat → Nat) (G : NB) : Nat → NB × Nat
  | 0 => (G, 0)
  | j + 1 => (lvs D (lvs D (cll D G j).1 j true) j false, (cll D G j).2 + lvn D (cll D G j).1 j true + lvn D (lvs D (cll D G j).1 j true) j false)
theorem cll_keep (D : Nat → Nat) (G : NB) {p : Nat} (hp : p ≠ 2 ∧ p ≠ 7 ∧ p ≠ 9 ∧ p ≠ 10) (i : Nat) : ∀ j, (cll D G j).1 p i = G p i
  | 0 => rfl
  | j + 1 => by
    show lvs D (lvs D (cll D G j).1 j true) j false p i = G p i
    rw [lvs_keep hp, lvs_keep hp, cll_keep D G hp i j]
theorem cll_wf {D : Nat → Nat} {G : NB} {N : Nat} (Wf : WF N G) (hN : N + 5000 ≤ 536870912) : ∀ j, j ≤ G 0 0 → WF (N + 400 * j) (cll D G j).1
  | 0, _ => Wf
  | j + 1, hj => by
    have hm := Wf.2.1.1
    have ih := cll_wf (D := D) Wf hN j (by omega)
    have hj0 : j < G 0 0 := by omega
    have h0 := cll_keep D G (p := 0) (by decide) 0 j
    have w1 := wf_lvs (D := D) ih (k := j) (ff := true) (M := N + 400 * j + 200) (by omega) (Nat.le_refl _) (by omega)
    have h1 : lvs D (cll D G j).1 j true 0 0 = G 0 0 := by rw [lvs_keep (by decide), h0]
    have hj12 : j + 1 ≤ 12 := by omega
    clear hj ih
    have b1 : N + 400 * j + 200 + 200 ≤ N + 400 * (j + 1) := by omega
    have b2 : N + 400 * (j + 1) ≤ N + 5000 := Nat.add_le_add_left (Nat.le_trans (Nat.mul_le_mul_left 400 hj12) (Nat.le_of_ble_eq_true rfl)) N
    have hk : j < lvs D (cll D G j).1 j true 0 0 := by rw [h1]; exact hj0
    exact wf_lvs (D := D) w1 (k := j) (ff := false) (M := N + 400 * (j + 1)) hk b1 (Nat.le_trans b2 hN)
theorem cll_le (D : Nat → Nat) {G : NB} (hr : G 0 1 ≤ 99) : ∀ j, (cll D G j).2 ≤ 198 * j
  | 0 => Nat.le_refl _
  | j + 1 => by
    have ih := cll_le D hr j
    have e1 := cll_keep D G (p := 0) (by decide) 1 j
    have l1 := lvn_le (D := D) (G := (cll D G j).1) (k := j) (ff := true)
    have l2 := lvn_le (D := D) (G := lvs D (cll D G j).1 j true) (k := j) (ff := false)
    have m1 := most_le (cll D G j).1 j true ((cll D G j).1 0 1)
    have m2 := most_le (lvs D (cll D G j).1 j true) j false (lvs D (cll D G j).1 j true 0 1)
    rw [lvs_keep (by decide)] at l2 m2
    show (cll D G j).2 + _ + _ ≤ _
    omega
theorem cl_close_loop {δ : Row} {G : NB} {N : Nat} {D : Nat → Nat} (Wf : WF N G) (hN : N + 6000 ≤ 536870912) (hδ : Dro δ D) : ∀ (d j n : Nat) (σ : Blk), j + d = G 0 0 → d < n → Cls σ (cll D G j).1 → ∃ σ', f_X0_closeForAnHour_L9 δ n σ (nI (cll D G j).2) (nI j) = some (nI (cll D G (G 0 0)).2, δ, σ') ∧ Cls σ' (hr (cll D G (G 0 0)).1) := by
  have hm := Wf.2.1.1
  intro d
  induction d with
  | zero =>
    intro j n σ hj hn C
    obtain ⟨n, rfl⟩ : ∃ m, n = m + 1 := ⟨n - 1, by omega⟩
    have hj' : j = G 0 0 := by omega
    subst hj'
    have c0 : σ 0 0 = nI (G 0 0) := by rw [C.1 0 (by decide), cll_keep D G (by decide)]
    obtain ⟨σ', e, C'⟩ := cl_hour C (cll_wf (D := D) Wf (by omega) (G 0 0) (Nat.le_refl _))
    refine ⟨σ', ?_, C'⟩
    rw [f_X0_closeForAnHour_L9, c0, if_pos (nI_le (Nat.le_refl _) (by omega)), e]
    rfl
  | succ d ih =>
    intro j n σ hj hn C
    obtain ⟨n, rfl⟩ : ∃ m, n = m + 1 := ⟨n - 1, by omega⟩
    have c0 : σ 0 0 = nI (G 0 0) := by rw [C.1 0 (by decide), cll_keep D G (by decide)]
    have w := cll_wf (D := D) Wf (by omega) j (by omega)
    have h0 := cll_keep D G (p := 0) (by decide) 0 j
    obtain ⟨σ1, e1', C1⟩ := cl_leave C w (by omega) hδ (k := j) (by omega) true
    have w1 := wf_lvs (D := D) w (k := j) (ff := true) (M := N + 400 * j + 200) (by omega) (Nat.le_refl _) (by omega)
    obtain ⟨σ2, e2', C2⟩ := cl_leave C1 w1 (by omega) hδ (k := j) (by rw [lvs_keep (by decide)]; omega) false
    obtain ⟨σ', e, C'⟩ := ih (j + 1) n σ2 (by omega) (by omega) C2
    refine ⟨σ', ?_, C'⟩
    rw [f_X0_closeForAnHour_L9, c0, if_neg (nI_ge (by omega) (by omega)), e1', Option.bind_some]
    simp only []
    rw [e2', Option.bind_some]
    simp only []
    rw [nI_add, nI_add, nI_1]
    exact e
/-- an hour of closing: the state behind it, and how many passed -/
noncomputable def clo (G : NB) : NB := hr (cll (dst G) G (G 0 0)).1
noncomputable def clp (G : NB) : Nat := (cll (dst G) G (G 0 0)).2
theorem cl_close {δ : Row} {σ : Blk} {G : NB} {N : Nat} (C : Cls σ G) (Wf : WF N G) (hN : N + 6000 ≤ 536870912) : ∃ δ' σ', f_X0_closeForAnHour δ σ = some (nI (clp G), δ', σ') ∧ Cls σ' (clo G) := by
  unfold f_X0_closeForAnHour clp clo
  obtain ⟨δ', e, hd⟩ := cl_dist (δ := δ) C Wf
  rw [e, Option.bind_some]
  have hm := Wf.2.1.1
  have hδ : Dro δ' (dst G) := fun h hh => ⟨hd h hh, by rcases dst_le G hh with z | z <;> omega⟩
  obtain ⟨σ', e2, C'⟩ := cl_close_loop Wf hN hδ (G 0 0) 0 FU σ (by omega) (FU_big (by omega)) C
  exact ⟨δ', σ', e2, C'⟩
theorem clo_wf {G : NB} {N M : Nat} (Wf : WF N G) (hM : N + 5000 ≤ M) (hM2 : M ≤ 536870912) : WF M (clo G) := by
  have hm := Wf.2.1.1
  exact wf_hr (cll_wf (D := dst G) Wf (by omega) (G 0 0) (Nat.le_refl _)) (by omega) hM2
theorem clp_le {G : NB} {N : Nat} (Wf : WF N G) : clp G ≤ 2376 := by
  have hm := Wf.2.1
  have := cll_le (dst G) (G := G) hm.2.2.1 (G 0 0)
  unfold clp
  omega
