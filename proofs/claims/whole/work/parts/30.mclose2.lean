/-! the reference: an hour of closing, copies, the history -/
def clm (D : Nat → Nat) (G : NB) : Nat → NB × Nat
  | 0 => (G, 0)
  | i + 1 => (lvs D (clm D G i).1 (i / 2) (par i), (clm D G i).2 + lvn D (clm D G i).1 (i / 2) (par i))
theorem clm_cll (D : Nat → Nat) (G : NB) : ∀ j, clm D G (2 * j) = cll D G j
  | 0 => rfl
  | j + 1 => by
    have h0 : 2 * j / 2 = j := by omega
    have h1 : (2 * j + 1) / 2 = j := by omega
    have p0 : par (2 * j) = true := by simp [par]
    have p1 : par (2 * j + 1) = false := by simp [par]
    rw [show 2 * (j + 1) = (2 * j + 1) + 1 by omega]
    simp only [clm, cll, h0, h1, p0, p1, clm_cll D G j]
theorem clm_keep (D : Nat → Nat) (G : NB) {p : Nat} (hp : p ≠ 2 ∧ p ≠ 7 ∧ p ≠ 9 ∧ p ≠ 10) (x : Nat) : ∀ i, (clm D G i).1 p x = G p x
  | 0 => rfl
  | i + 1 => by
    show lvs D (clm D G i).1 (i / 2) (par i) p x = G p x
    rw [lvs_keep hp, clm_keep D G hp x i]
theorem clm_wf {D : Nat → Nat} {G : NB} {N : Nat} (Wf : WF N G) (hN : N + 5000 ≤ 536870912) : ∀ i, i ≤ 2 * G 0 0 → WF (N + 200 * i) (clm D G i).1
  | 0, _ => Wf
  | i + 1, hi => by
    have hm := Wf.2.1.1
    have ih := clm_wf (D := D) Wf hN i (by omega)
    have h0 := clm_keep D G (p := 0) (by decide) 0 i
    have h24 : i + 1 ≤ 24 := by omega
    have hk : i / 2 < (clm D G i).1 0 0 := by rw [h0]; omega
    have b1 : N + 200 * i + 200 ≤ N + 200 * (i + 1) := by omega
    have b2 : N + 200 * (i + 1) ≤ N + 5000 := Nat.add_le_add_left (Nat.le_trans (Nat.mul_le_mul_left 200 h24) (Nat.le_of_ble_eq_true rfl)) N
    exact wf_lvs (D := D) ih (k := i / 2) (ff := par i) (M := N + 200 * (i + 1)) hk b1 (Nat.le_trans b2 hN)
theorem can_0 {G : NB} {N : Nat} (Wf : WF N G) {k : Nat} (hk : k < 12) (ff : Bool) : can G k ff 0 := can_most (bd := 0) Wf hk (Nat.zero_le _)
/-- one direction of a stile in an hour of closing -/
theorem mo_cstep {μ : Blk} {b : Nat} {G : NB} {N : Nat} {D : Nat → Nat} (M : Mod (μ 1) b G) (Wf : WF N G) (hN : N + 200 ≤ 536870912) (hb' : b ≤ 1792) (F : ∀ h, h < 6 → μ 3 h = fI (D h)) (hD : ∀ h, h < 6 → D h ≤ 5 ∨ D h = 1000) {k : Nat} (hk : k < G 0 0) (ff : Bool) (x2 : Int32) (K : Blk → Int32 → Option (Int32 × Blk)) :
    ∃ μ', ((f_X6_from μ (nI (b + 16 + 20 * k)) ff).bind fun q54 => (if ib q54 6 = true then (f_X6_to μ (nI (b + 16 + 20 * k)) ff).bind fun q69 => (if ib q69 6 = true then (if ((μ 3) (Int32.toNatClampNeg q69)) < 0 then (f_X6_passes μ (nI b) (nI k) ff 0).bind fun q122 => K q122 (x2 + 0) else (if ((μ 3) (Int32.toNatClampNeg q54)) = (((μ 3) (Int32.toNatClampNeg q69)) + 1) then (if ib (nI b + 0) 2048 = true then (f_X6_atMost μ (nI b) (nI k) ff ((μ 1) (Int32.toNatClampNeg (nI b + 0)))).bind fun q104 => (f_X6_passes μ (nI b) (nI k) ff q104).bind fun q122 => K q122 (x2 + q104) else none) else (f_X6_passes μ (nI b) (nI k) ff 0).bind fun q122 => K q122 (x2 + 0))) else none) else none)) = K μ' (x2 + nI (lvn D G k ff)) ∧ Mod (μ' 1) b (lvs D G k ff) ∧ Same b μ μ' := by
  have h12 : k < 12 := by have := Wf.2.1.1; omega
  obtain ⟨h1, h2⟩ := hb_lt Wf h12 ff
  have w0 := Wf.2.1
  have db := hD _ h1
  have da := hD _ h2
  rw [mo_from M hb' hk h12, Option.bind_some, mo_to M hb' hk h12, Option.bind_some]
  simp (disch := omega) only [ib_nI, nI_clamp, if_true]
  rw [F _ h1, F _ h2]
  obtain ⟨μ0, p0, M0, S0⟩ := mo_passes (n := 0) M Wf (by omega) hb' hk (by decide) (can_0 Wf h12 ff)
  rw [pas_0] at M0
  have zero : lvn D G k ff = 0 → ((f_X6_passes μ (nI b) (nI k) ff 0).bind fun q122 => K q122 (x2 + 0)) = K μ0 (x2 + nI (lvn D G k ff)) ∧ Mod (μ0 1) b (lvs D G k ff) ∧ Same b μ μ0 := by
    intro z
    refine ⟨?_, ?_, S0⟩
    · rw [z, show (0 : Int32) = nI 0 from e0, p0, Option.bind_some]
    · unfold lvs
      rw [z, pas_0]; exact M0
  by_cases c : D (ha G k ff) = 1000
  · rw [if_pos ((fI_lt da).mpr c)]
    exact ⟨μ0, zero (by unfold lvn; rw [if_neg (by omega)])⟩
  · rw [if_neg (fun z => c ((fI_lt da).mp z))]
    have fa : fI (D (ha G k ff)) = nI (D (ha G k ff)) := by unfold fI; rw [if_neg c]
    rw [fa, nI_1]
    by_cases d : D (hb G k ff) = D (ha G k ff) + 1
    · rw [if_pos ((fI_eq db (by omega)).mpr d)]
      have el : lvn D G k ff = most G k ff (G 0 1) := by unfold lvn; rw [if_pos d]
      have ml := most_le G k ff (G 0 1)
      obtain ⟨μ1, p1, M1, S1⟩ := mo_passes (n := most G k ff (G 0 1)) M Wf (by omega) hb' hk (by omega) (can_most Wf h12 (Nat.le_refl _))
      refine ⟨μ1, ?_, ?_, S1⟩
      · rw [e0, nI_add, ib_nI (by omega) (by decide), nI_clamp (by omega), if_pos rfl, Nat.add_zero, M.1.1, mo_most M Wf hb' hk h12 (by omega), Option.bind_some, p1, Option.bind_some, el]
      · unfold lvs
        rw [el]; exact M1
    · rw [if_neg (fun z => d ((fI_eq db (by omega)).mp z))]
      exact ⟨μ0, zero (by unfold lvn; rw [if_neg d])⟩
theorem mo_close_loop {b : Nat} {G : NB} {N : Nat} {D : Nat → Nat} (Wf : WF N G) (hN : N + 6000 ≤ 536870912) (hb' : b ≤ 1792) (hD : ∀ h, h < 6 → D h ≤ 5 ∨ D h = 1000) : ∀ (d i n : Nat) (μ : Blk), i + d = 2 * G 0 0 → d < n → Mod (μ 1) b (clm D G i).1 → (∀ h, h < 6 → μ 3 h = fI (D h)) →
    ∃ μ', f_X6_closes_L9 (nI b) n μ (nI (clm D G i).2) (nI i) = some (nI (clm D G (2 * G 0 0)).2, μ') ∧ Mod (μ' 1) b (hr (clm D G (2 * G 0 0)).1) ∧ Same b μ μ' := by
  have hm := Wf.2.1.1
  intro d
  induction d with
  | zero =>
    intro i n μ hi hn M F
    obtain ⟨n, rfl⟩ : ∃ m, n = m + 1 := ⟨n - 1, by omega⟩
    have hi' : i = 2 * G 0 0 := by omega
    subst hi'
    have m0 : μ 1 (b + 3) = nI (G 0 0) := by rw [M.1.2.2.2, clm_keep D G (by decide)]
    obtain ⟨μ', e, M', S'⟩ := mo_hour M (clm_wf (D := D) Wf (by omega) _ (Nat.le_refl _)) hb'
    refine ⟨μ', ?_, M', S'⟩
    rw [f_X6_closes_L9, e3, nI_add]
    simp (disch := omega) only [ib_nI, nI_clamp, if_true, m0]
    rw [e2, nI_mul, if_pos (nI_le (Nat.le_refl _) (by omega)), e]
    rfl
  | succ d ih =>
    intro i n μ hi hn M F
    obtain ⟨n, rfl⟩ : ∃ m, n = m + 1 := ⟨n - 1, by omega⟩
    have hk : i / 2 < G 0 0 := by omega
    have h0 := clm_keep D G (p := 0) (by decide) 0 i
    have m0 : μ 1 (b + 3) = nI (G 0 0) := by rw [M.1.2.2.2, h0]
    have w := clm_wf (D := D) Wf (by omega) i (by omega)
    obtain ⟨μ1, e1', M1, S1⟩ := mo_cstep (D := D) M w (by omega) hb' F hD (k := i / 2) (by rw [h0]; exact hk) (par i) (nI (clm D G i).2) (fun q x => f_X6_closes_L9 (nI b) n q x (nI (i + 1)))
    obtain ⟨μ', e', M', S'⟩ := ih (i + 1) n μ1 (by omega) (by omega) M1 (fun h hh => by rw [S1.1 3 (by decide)]; exact F h hh)
    refine ⟨μ', ?_, M', S1.tr S'⟩
    rw [nI_add] at e1'
    have e2' := e1'.trans e'
    rw [← e2', f_X6_closes_L9]
    simp only [e3, nI_add]
    simp (disch := omega) only [ib_nI, nI_clamp, if_true, m0]
    rw [e2, nI_mul, if_neg (nI_ge (by omega) (by omega)), nI_div (by omega) (by decide) (by decide), mo_place, nI_rem (by omega) (by decide) (by decide), nI_1]
    simp only [lt]
    by_cases c : i % 2 = 0
    · rw [if_pos (by rw [c]; decide), show par i = true by simp [par, c]]
    · rw [if_neg (fun z => by rw [e0] at z; exact c ((nI_eq (by omega) (by decide)).mp z)), show par i = false by simp [par, c]]
theorem mo_close {μ : Blk} {b : Nat} {G : NB} {N : Nat} (M : Mod (μ 1) b G) (Wf : WF N G) (hN : N + 6000 ≤ 536870912) (hb' : b ≤ 1792) : ∃ μ', f_X6_closes μ (nI b) = some (nI (clp G), μ') ∧ Mod (μ' 1) b (clo G) ∧ (∀ p, p ≠ 1 → p ≠ 3 → μ' p = μ p) ∧ ∀ j, j < b ∨ b + 256 ≤ j → μ' 1 j = μ 1 j := by
  unfold f_X6_closes clp clo
  obtain ⟨μ1, a1, a2, a3⟩ := mo_dist M Wf hb'
  have hm := Wf.2.1.1
  rw [a1, Option.bind_some]
  obtain ⟨μ', e', M', S'⟩ := mo_close_loop (D := dst G) Wf hN hb' (fun h hh => dst_le G hh) (2 * G 0 0) 0 FU μ1 (by omega) (FU_big (by omega)) (by rw [a2 1 (by decide)]; exact M) a3
  rw [clm_cll] at e' M'
  refine ⟨μ', ?_, M', fun p h1 h3 => (S'.1 p h1).trans (a2 p h3), fun j hj => by rw [S'.2 j hj, a2 1 (by decide)]⟩
  rw [e0]; exact e'
theorem mo_ppl {μ : Blk} {b : Nat} {G : NB} (M : Mod (μ 1) b G) (hb' : b ≤ 1792) : f_X6_people μ (nI b) = some (nI (ppl G)) := by
  unfold f_X6_people
  obtain ⟨n, hn⟩ := FU_s 6 (by decide)
  have st : ∀ (n h acc : Nat), 1 ≤ h → h < 6 → f_X6_people_L4 μ (nI b) (n + 1) (nI acc) (nI h) = f_X6_people_L4 μ (nI b) n (nI (acc + G 2 h)) (nI (h + 1)) := by
    intro n h acc h1 h6
    rw [f_X6_people_L4, e6, if_neg (nI_ge h6 (by decide)), e10, nI_add, nI_add, ib_nI (by omega) (by decide), nI_clamp (by omega), if_pos rfl, (M.2.1 h h1 h6).2, nI_add, nI_1]
  rw [hn, e0, e1]
  rw [show n + 6 = n + 5 + 1 from rfl, st _ 1 _ (by decide) (by decide), show n + 5 = n + 4 + 1 from rfl, st _ 2 _ (by decide) (by decide), show n + 4 = n + 3 + 1 from rfl, st _ 3 _ (by decide) (by decide), show n + 3 = n + 2 + 1 from rfl, st _ 4 _ (by decide) (by decide), show n + 2 = n + 1 + 1 from rfl, st _ 5 _ (by decide) (by decide), f_X6_people_L4, if_pos (by decide)]
  unfold ppl
  congr 2
  omega
/-! copies -/
def cps (s : Row) (f t : Nat) : Row := fun j => if 256 * t ≤ j ∧ j < 256 * t + 256 then s (256 * f + (j - 256 * t)) else s j
theorem mo_copies {μ : Blk} {f t : Nat} (hf : f ≤ 7) (ht : t ≤ 7) (hne : f ≠ t) : ∃ μ', f_X6_copies μ (nI f) (nI t) = some μ' ∧ (∀ p, p ≠ 1 → μ' p = μ p) ∧ ∀ j, μ' 1 j = cps (μ 1) f t j := by
  have key : ∀ (d k n : Nat) (ν : Blk), k + d = 256 → d < n → (∀ p, p ≠ 1 → ν p = μ p) → (∀ j, ν 1 j = if 256 * t ≤ j ∧ j < 256 * t + k then μ 1 (256 * f + (j - 256 * t)) else μ 1 j) → ∃ μ', f_X6_copies_L2 (nI f) (nI t) n ν (nI k) = some μ' ∧ (∀ p, p ≠ 1 → μ' p = μ p) ∧ ∀ j, μ' 1 j = cps (μ 1) f t j := by
    intro d
    induction d with
    | zero =>
      intro k n ν hk hn h1 h2
      obtain ⟨n, rfl⟩ : ∃ m, n = m + 1 := ⟨n - 1, by omega⟩
      have hk' : k = 256 := by omega
      subst hk'
      exact ⟨ν, by rw [f_X6_copies_L2, e256, if_pos (nI_le (Nat.le_refl _) (by decide))], h1, h2⟩
    | succ d ih =>
      intro k n ν hk hn h1 h2
      obtain ⟨n, rfl⟩ : ∃ m, n = m + 1 := ⟨n - 1, by omega⟩
      obtain ⟨μ', e', a, b⟩ := ih (k + 1) n (upR ν 1 (upd (ν 1) (256 * t + k) (ν 1 (256 * f + k)))) (by omega) (by omega) (fun p hp => by rw [upR_app, if_neg hp]; exact h1 p hp) (fun j => by
        rw [upR_app, if_pos rfl, upd_app]
        have hv : ν 1 (256 * f + k) = μ 1 (256 * f + k) := by
          rw [h2, if_neg (by omega)]
        by_cases c : j = 256 * t + k
        · rw [if_pos c, hv, if_pos (by omega)]
          congr 1
          omega
        · rw [if_neg c, h2]
          by_cases d1 : 256 * t ≤ j ∧ j < 256 * t + k
          · rw [if_pos d1, if_pos (by omega)]
          · rw [if_neg d1, if_neg (by omega)])
      refine ⟨μ', ?_, a, b⟩
      rw [f_X6_copies_L2, e256, if_neg (nI_ge (by omega) (by decide))]
      simp only [nI_mul, nI_add, nI_1, lt]
      simp (disch := omega) only [ib_nI, nI_clamp, if_true]
      exact e'
  unfold f_X6_copies
  rw [e0]
  exact key 256 0 FU μ rfl (FU_big (by decide)) (fun _ _ => rfl) (fun j => by rw [if_neg (by omega)])
theorem Mod.shift {s s' : Row} {b b' : Nat} {G : NB} (M : Mod s b G) (hm : G 0 0 ≤ 12) (h : ∀ i, i < 256 → s' (b' + i) = s (b + i)) : Mod s' b' G := by
  have g : ∀ i j j', i < 256 → j' = b' + i → j = b + i → s' j' = s j := fun i j j' hi h1 h2 => by rw [h1, h2]; exact h i hi
  refine ⟨⟨?_, ?_, ?_, ?_⟩, fun x h1 h2 => ⟨?_, ?_⟩, fun k hk => ⟨?_, ?_, ?_, ?_⟩, fun k c hk hc => ⟨?_, ?_, ?_, ?_⟩⟩
  · rw [g 0 b b' (by decide) rfl rfl]; exact M.1.1
  · rw [h 1 (by decide)]; exact M.1.2.1
  · rw [h 2 (by decide)]; exact M.1.2.2.1
  · rw [h 3 (by decide)]; exact M.1.2.2.2
  · rw [g (4 + x) (b + 4 + x) _ (by omega) (by omega) (by omega)]; exact (M.2.1 x h1 h2).1
  · rw [g (10 + x) (b + 10 + x) _ (by omega) (by omega) (by omega)]; exact (M.2.1 x h1 h2).2
  · rw [g (16 + 20 * k) (b + 16 + 20 * k) _ (by omega) (by omega) (by omega)]; exact (M.2.2.1 k hk).1
  · rw [g (16 + 20 * k + 1) (b + 16 + 20 * k + 1) _ (by omega) (by omega) (by omega)]; exact (M.2.2.1 k hk).2.1
  · rw [g (16 + 20 * k + 2) (b + 16 + 20 * k + 2) _ (by omega) (by omega) (by omega)]; exact (M.2.2.1 k hk).2.2.1
  · rw [g (16 + 20 * k + 3) (b + 16 + 20 * k + 3) _ (by omega) (by omega) (by omega)]; exact (M.2.2.1 k hk).2.2.2
  · rw [g (16 + 20 * k + 4 + 4 * c) (b + 16 + 20 * k + 4 + 4 * c) _ (by omega) (by omega) (by omega)]; exact (M.2.2.2 k c hk hc).1
  · rw [g (16 + 20 * k + 4 + 4 * c + 1) (b + 16 + 20 * k + 4 + 4 * c + 1) _ (by omega) (by omega) (by omega)]; exact (M.2.2.2 k c hk hc).2.1
  · rw [g (16 + 20 * k + 4 + 4 * c + 2) (b + 16 + 20 * k + 4 + 4 * c + 2) _ (by omega) (by omega) (by omega)]; exact (M.2.2.2 k c hk hc).2.2.1
  · rw [g (16 + 20 * k + 4 + 4 * c + 3) (b + 16 + 20 * k + 4 + 4 * c + 3) _ (by omega) (by omega) (by omega)]; exact (M.2.2.2 k c hk hc).2.2.2
theorem cps_to {s s' : Row} {f t : Nat} {G : NB} (hs : ∀ j, s' j = cps s f t j) (M : Mod s (256 * f) G) (hm : G 0 0 ≤ 12) : Mod s' (256 * t) G := M.shift hm (fun i hi => by
  rw [hs]; unfold cps
  rw [if_pos (by omega)]
  congr 1
  omega)
theorem cps_other {s s' : Row} {f t u : Nat} {G : NB} (hs : ∀ j, s' j = cps s f t j) (hu : u ≠ t) (M : Mod s (256 * u) G) (hm : G 0 0 ≤ 12) : Mod s' (256 * u) G := M.shift hm (fun i hi => by
  rw [hs]; unfold cps
  rw [if_neg (by omega)])
theorem mod_blk {s s' : Row} {u b : Nat} {G : NB} (hs : ∀ j, j < b ∨ b + 256 ≤ j → s' j = s j) (hu : 256 * u + 256 ≤ b ∨ b + 256 ≤ 256 * u) (M : Mod s (256 * u) G) (hm : G 0 0 ≤ 12) : Mod s' (256 * u) G := M.shift hm (fun i hi => hs _ (by omega))
