/-! the reference: distances -/
def fI (d : Nat) : Int32 := if d = 1000 then (-100005) else nI d
theorem fI_neg {d : Nat} (h : d ≤ 5 ∨ d = 1000) : ¬ 0 ≤ fI d ↔ d = 1000 := by
  unfold fI
  by_cases c : d = 1000
  · rw [if_pos c]; exact ⟨fun _ => c, fun _ => by decide⟩
  · rw [if_neg c]
    exact ⟨fun z => absurd (nI_pos' (by omega)) z, fun z => absurd z c⟩
theorem fI_lt {d : Nat} (h : d ≤ 5 ∨ d = 1000) : fI d < 0 ↔ d = 1000 := by
  unfold fI
  by_cases c : d = 1000
  · rw [if_pos c]; exact ⟨fun _ => c, fun _ => by decide⟩
  · rw [if_neg c]
    exact ⟨fun z => absurd z (nI_pos (by omega)), fun z => absurd z c⟩
theorem fI_eq {d r : Nat} (h : d ≤ 5 ∨ d = 1000) (hr : r ≤ 6) : fI d = nI r ↔ d = r := by
  unfold fI
  by_cases c : d = 1000
  · rw [if_pos c]
    constructor
    · intro z
      have h1 : (nI r).toInt = (r : Int) := nI_toInt (by omega)
      rw [← z] at h1
      have h2 : (-100005 : Int32).toInt = -100005 := by decide
      omega
    · intro z; omega
  · rw [if_neg c, nI_eq (by omega) (by omega)]
def Far (f : Row) (E : Nat → Nat) : Prop := ∀ h, h < 6 → f h = fI (E h) ∧ (E h ≤ 5 ∨ E h = 1000)
theorem bar_0 {G : NB} {k : Nat} {ff : Bool} : bar G k ff = 0 ↔ opn G k ff = true := by
  unfold bar opn
  by_cases a : 0 < G 6 k
  · have : ¬ G 6 k = 0 := by omega
    simp [a, this]
  · have : G 6 k = 0 := by omega
    cases gos G k ff <;> simp [this]
theorem bar_le {G : NB} {k : Nat} {ff : Bool} : bar G k ff ≤ 2 := by
  unfold bar
  split
  · omega
  · split <;> omega
theorem upd_far {f : Row} {E : Nat → Nat} (F : Far f E) {u r : Nat} (hr : r ≤ 5) : Far (upd f u (nI r)) (upN1 E u r) := by
  intro h hh
  rw [upd_app]
  unfold upN1
  by_cases c : h = u
  · rw [if_pos c, if_pos c]
    exact ⟨by unfold fI; rw [if_neg (by omega)], Or.inl hr⟩
  · rw [if_neg c, if_neg c]; exact F h hh
/-- one look at one direction of a stile -/
theorem mo_dstep {μ : Blk} {b : Nat} {G : NB} {N : Nat} {E : Nat → Nat} (M : Mod (μ 1) b G) (Wf : WF N G) (hb' : b ≤ 1792) (F : Far (μ 3) E) {k r : Nat} (hk : k < G 0 0) (h12 : k < 12) (h1r : 1 ≤ r) (hr : r ≤ 5) (ff : Bool) (K : Blk → Option Blk) :
    ((f_X6_barred μ (nI (b + 16 + 20 * k)) ff).bind fun q81 => (if q81 = 0 then (f_X6_to μ (nI (b + 16 + 20 * k)) ff).bind fun q96 => (if ib q96 6 = true then (if ((μ 3) (Int32.toNatClampNeg q96)) = (nI r - 1) then (f_X6_from μ (nI (b + 16 + 20 * k)) ff).bind fun q127 => (if ib q127 6 = true then (if 0 ≤ ((μ 3) (Int32.toNatClampNeg q127)) then K μ else (f_X6_from μ (nI (b + 16 + 20 * k)) ff).bind fun q143 => (if ib q143 6 = true then lt (upR μ 3 (upd (μ 3) (Int32.toNatClampNeg q143) (nI r))) fun m147 => K m147 else none)) else none) else K μ) else none) else K μ))
    = K (if opn G k ff = true ∧ E (ha G k ff) = r - 1 ∧ E (hb G k ff) = 1000 then upR μ 3 (upd (μ 3) (hb G k ff) (nI r)) else μ) := by
  obtain ⟨h1, h2⟩ := hb_lt Wf h12 ff
  have fb := F _ h1
  have fa := F _ h2
  have bl := bar_le (G := G) (k := k) (ff := ff)
  rw [mo_barred M Wf hb' hk h12, Option.bind_some, mo_to M hb' hk h12, mo_from M hb' hk h12]
  simp only [Option.bind_some, lt]
  simp (disch := omega) only [ib_nI, nI_clamp, if_true]
  rw [fb.1, fa.1, e1, nI_sub h1r]
  simp only [fI_eq fa.2 (show r - 1 ≤ 6 by omega), e0, nI_eq (show bar G k ff < 2 ^ 31 by omega) (show 0 < 2 ^ 31 by decide), bar_0]
  by_cases a : opn G k ff = true
  · by_cases c : E (ha G k ff) = r - 1
    · by_cases d : E (hb G k ff) = 1000
      · rw [if_pos a, if_pos c, if_neg (by rw [← e0]; exact (fI_neg fb.2).mpr d), if_pos ⟨a, c, d⟩]
      · rw [if_pos a, if_pos c, if_pos (by
          rw [← e0]
          by_cases z : 0 ≤ fI (E (hb G k ff))
          · exact z
          · exact absurd ((fI_neg fb.2).mp z) d), if_neg (fun z => d z.2.2)]
    · rw [if_pos a, if_neg c, if_neg (fun z => c z.2.1)]
  · rw [if_neg a, if_neg (fun z => a z.1)]
def par (i : Nat) : Bool := decide (i % 2 = 0)
/-- where the far row stands in the round r, when i directions have been looked at -/
def Rnd (G : NB) (r i : Nat) (E : Nat → Nat) : Prop := ∀ h, h < 6 → (dst G h ≤ r - 1 → E h = dst G h) ∧ (r - 1 < dst G h → E h = 1000 ∨ (E h = r ∧ dst G h = r)) ∧ ∀ i', i' < i → opn G (i' / 2) (par i') = true → hb G (i' / 2) (par i') = h → dst G (ha G (i' / 2) (par i')) = r - 1 → dst G h = r → E h = r
theorem mo_dround {b : Nat} {G : NB} {N : Nat} (Wf : WF N G) (hb' : b ≤ 1792) {r : Nat} (h1r : 1 ≤ r) (hr : r ≤ 5) : ∀ (d i n : Nat) (μ : Blk) (E : Nat → Nat), i + d = 2 * G 0 0 → d < n → Mod (μ 1) b G → Far (μ 3) E → Rnd G r i E →
    ∃ μ' E', f_X6_distances_I40 (nI b) (nI r) n μ (nI i) = some μ' ∧ (∀ p, p ≠ 3 → μ' p = μ p) ∧ Far (μ' 3) E' ∧ Rnd G r (2 * G 0 0) E' := by
  have hm := Wf.2.1.1
  intro d
  induction d with
  | zero =>
    intro i n μ E hi hn M F Rn
    obtain ⟨n, rfl⟩ : ∃ m, n = m + 1 := ⟨n - 1, by omega⟩
    have hi' : i = 2 * G 0 0 := by omega
    subst hi'
    have m0 : μ 1 (b + 3) = nI (G 0 0) := M.1.2.2.2
    refine ⟨μ, E, ?_, fun _ _ => rfl, F, Rn⟩
    rw [f_X6_distances_I40, e3, nI_add]
    simp (disch := omega) only [ib_nI, nI_clamp, if_true, m0]
    rw [e2, nI_mul, if_pos (nI_le (Nat.le_refl _) (by omega))]
  | succ d ih =>
    intro i n μ E hi hn M F Rn
    obtain ⟨n, rfl⟩ : ∃ m, n = m + 1 := ⟨n - 1, by omega⟩
    have hk : i / 2 < G 0 0 := by omega
    have h12 : i / 2 < 12 := by omega
    have m0 : μ 1 (b + 3) = nI (G 0 0) := M.1.2.2.2
    obtain ⟨h1, h2⟩ := hb_lt Wf h12 (par i)
    have hN : ∃ μ2 E2, f_X6_distances_I40 (nI b) (nI r) (n + 1) μ (nI i) = f_X6_distances_I40 (nI b) (nI r) n μ2 (nI (i + 1)) ∧ (∀ p, p ≠ 3 → μ2 p = μ p) ∧ Far (μ2 3) E2 ∧ Rnd G r (i + 1) E2 := by
      refine ⟨if opn G (i / 2) (par i) = true ∧ E (ha G (i / 2) (par i)) = r - 1 ∧ E (hb G (i / 2) (par i)) = 1000 then upR μ 3 (upd (μ 3) (hb G (i / 2) (par i)) (nI r)) else μ, if opn G (i / 2) (par i) = true ∧ E (ha G (i / 2) (par i)) = r - 1 ∧ E (hb G (i / 2) (par i)) = 1000 then upN1 E (hb G (i / 2) (par i)) r else E, ?_, ?_, ?_, ?_⟩
      · rw [f_X6_distances_I40, e3, nI_add]
        simp (disch := omega) only [ib_nI, nI_clamp, if_true, m0]
        rw [e2, nI_mul, if_neg (nI_ge (by omega) (by omega)), nI_div (by omega) (by decide) (by decide), mo_place, nI_rem (by omega) (by decide) (by decide), e0, nI_1]
        simp only [lt]
        by_cases c : i % 2 = 0
        · rw [if_pos (by rw [c])]
          have := mo_dstep M Wf hb' F hk h12 h1r hr true (fun m => f_X6_distances_I40 (nI b) (nI r) n m (nI (i + 1)))
          simp only [lt, e0] at this
          rw [this]
          simp [par, c]
        · rw [if_neg (fun z => c ((nI_eq (by omega) (by decide)).mp z))]
          have := mo_dstep M Wf hb' F hk h12 h1r hr false (fun m => f_X6_distances_I40 (nI b) (nI r) n m (nI (i + 1)))
          simp only [lt, e0] at this
          rw [this]
          simp [par, c]
      · intro p hp
        split
        · rw [upR_app, if_neg hp]
        · rfl
      · split
        · rw [upR_app, if_pos rfl]
          exact upd_far F hr
        · exact F
      · intro h hh
        obtain ⟨q1, q2, q3⟩ := Rn h hh
        have ra := Rn _ h2
        by_cases c : opn G (i / 2) (par i) = true ∧ E (ha G (i / 2) (par i)) = r - 1 ∧ E (hb G (i / 2) (par i)) = 1000
        · rw [if_pos c]
          -- the hall behind gets its distance
          have da : dst G (ha G (i / 2) (par i)) = r - 1 := by
            by_cases z : dst G (ha G (i / 2) (par i)) ≤ r - 1
            · rw [← ra.1 z]; exact c.2.1
            · rcases ra.2.1 (by omega) with z2 | z2 <;> omega
          have db : dst G (hb G (i / 2) (par i)) = r := by
            have rb := Rn _ h1
            have l := dst_edge h1 h2 ⟨i / 2, par i, hk, c.1, rfl, rfl⟩ (by omega)
            by_cases z : dst G (hb G (i / 2) (par i)) ≤ r - 1
            · have := rb.1 z
              omega
            · omega
          unfold upN1
          by_cases e : h = hb G (i / 2) (par i)
          · subst e
            refine ⟨fun z => by omega, fun z => Or.inr ⟨by simp, db⟩, fun i' hi' o1 o2 o3 o4 => by simp⟩
          · rw [if_neg e]
            refine ⟨q1, q2, fun i' hi' o1 o2 o3 o4 => ?_⟩
            by_cases w : i' = i
            · subst w; exact absurd o2.symm e
            · exact q3 i' (by omega) o1 o2 o3 o4
        · rw [if_neg c]
          refine ⟨q1, q2, fun i' hi' o1 o2 o3 o4 => ?_⟩
          by_cases w : i' = i
          · subst w
            have ea : E (ha G (i' / 2) (par i')) = r - 1 := by rw [ra.1 (by omega), o3]
            rcases q2 (by omega) with z | z
            · exact absurd ⟨o1, ea, by rw [o2]; exact z⟩ c
            · exact z.1
          · exact q3 i' (by omega) o1 o2 o3 o4
    obtain ⟨μ2, E2, he, hp, F2, R2⟩ := hN
    obtain ⟨μ', E', g1, g2, g3, g4⟩ := ih (i + 1) n μ2 E2 (by omega) (by omega) (by rw [hp 1 (by decide)]; exact M) F2 R2
    exact ⟨μ', E', by rw [he]; exact g1, fun p hp3 => (g2 p hp3).trans (hp p hp3), g3, g4⟩
theorem par_of (k : Nat) (ff : Bool) : (2 * k + cond ff 0 1) / 2 = k ∧ par (2 * k + cond ff 0 1) = ff := by
  cases ff
  · simp [par]; omega
  · simp [par]
theorem rnd_end {G : NB} {N r : Nat} {E : Nat → Nat} (Wf : WF N G) (h1r : 1 ≤ r) (hr : r ≤ 5) (Rn : Rnd G r (2 * G 0 0) E) : Rnd G (r + 1) 0 E := by
  intro h hh
  obtain ⟨q1, q2, q3⟩ := Rn h hh
  refine ⟨fun z => ?_, fun z => ?_, fun i' hi' => absurd hi' (Nat.not_lt_zero _)⟩
  · by_cases c : dst G h ≤ r - 1
    · exact q1 c
    · have dr : dst G h = r := by omega
      obtain ⟨v, hv, ⟨k, ff, hk, ho, e1', e2'⟩, dv⟩ := dst_back (G := G) (u := h) (d := r - 1) hh (by omega) (by omega)
      obtain ⟨p1, p2⟩ := par_of k ff
      have := q3 (2 * k + cond ff 0 1) (by cases ff <;> simp <;> omega) (by rw [p1, p2]; exact ho) (by rw [p1, p2]; exact e1') (by rw [p1, p2, e2']; exact dv) dr
      omega
  · rcases q2 (by omega) with c | c
    · exact Or.inl c
    · omega
theorem mo_drounds {b : Nat} {G : NB} {N : Nat} (Wf : WF N G) (hb' : b ≤ 1792) : ∀ (d r n : Nat) (μ : Blk) (E : Nat → Nat), r + d = 6 → 1 ≤ r → d < n → Mod (μ 1) b G → Far (μ 3) E → Rnd G r 0 E →
    ∃ μ', f_X6_distances_L32 (nI b) n μ (nI r) = some μ' ∧ (∀ p, p ≠ 3 → μ' p = μ p) ∧ ∀ h, h < 6 → μ' 3 h = fI (dst G h) := by
  have hm := Wf.2.1.1
  intro d
  induction d with
  | zero =>
    intro r n μ E hr h1 hn M F Rn
    obtain ⟨n, rfl⟩ : ∃ m, n = m + 1 := ⟨n - 1, by omega⟩
    have hr6 : r = 6 := by omega
    subst hr6
    refine ⟨μ, by rw [f_X6_distances_L32, if_pos (by decide)], fun _ _ => rfl, fun h hh => ?_⟩
    obtain ⟨q1, q2, -⟩ := Rn h hh
    rw [(F h hh).1]
    rcases dst_le G hh with z | z
    · rw [q1 z]
    · rcases q2 (by omega) with c | c
      · rw [c, z]
      · omega
  | succ d ih =>
    intro r n μ E hr h1 hn M F Rn
    obtain ⟨n, rfl⟩ : ∃ m, n = m + 1 := ⟨n - 1, by omega⟩
    obtain ⟨μ1, E1, g1, g2, g3, g4⟩ := mo_dround (N := N) Wf hb' (r := r) h1 (by omega) (2 * G 0 0) 0 FU μ E (by omega) (FU_big (by omega)) M F Rn
    obtain ⟨μ', f1, f2, f3⟩ := ih (r + 1) n μ1 E1 (by omega) (by omega) (by omega) (by rw [g2 1 (by decide)]; exact M) g3 (rnd_end Wf h1 (by omega) g4)
    refine ⟨μ', ?_, fun p hp => (f2 p hp).trans (g2 p hp), f3⟩
    rw [f_X6_distances_L32, e6, if_neg (nI_ge (by omega) (by decide)), e0, g1, Option.bind_some, nI_1]
    exact f1
theorem mo_dinit {b : Nat} : ∀ (d i n : Nat) (μ : Blk), i + d = 6 → d < n → (∀ h, h < i → μ 3 h = fI (D0 h)) → ∃ μ', (∀ p, p ≠ 3 → μ' p = μ p) ∧ (∀ h, h < 6 → μ' 3 h = fI (D0 h)) ∧ f_X6_distances_L2 (nI b) n μ (nI i) = f_X6_distances_L32 (nI b) FU μ' 1 := by
  intro d
  induction d with
  | zero =>
    intro i n μ hi hn hδ
    obtain ⟨n, rfl⟩ : ∃ m, n = m + 1 := ⟨n - 1, by omega⟩
    have hi6 : i = 6 := by omega
    subst hi6
    exact ⟨μ, fun _ _ => rfl, hδ, by rw [f_X6_distances_L2, if_pos (by decide)]⟩
  | succ d ih =>
    intro i n μ hi hn hδ
    obtain ⟨n, rfl⟩ : ∃ m, n = m + 1 := ⟨n - 1, by omega⟩
    rw [f_X6_distances_L2, e6, if_neg (nI_ge (by omega) (by decide)), ib_nI (by omega) (by decide), nI_clamp (by omega), nI_1]
    simp only [lt, if_true]
    have fin : ∀ v : Int32, v = fI (D0 i) → ∃ μ', (∀ p, p ≠ 3 → μ' p = μ p) ∧ (∀ h, h < 6 → μ' 3 h = fI (D0 h)) ∧ f_X6_distances_L2 (nI b) n (upR μ 3 (upd (μ 3) i v)) (nI (i + 1)) = f_X6_distances_L32 (nI b) FU μ' 1 := by
      intro v hv
      obtain ⟨μ', a1, a2, a3⟩ := ih (i + 1) n (upR μ 3 (upd (μ 3) i v)) (by omega) (by omega) (fun h hh => by
        rw [upR_app, if_pos rfl, upd_app]
        by_cases e : h = i
        · rw [if_pos e, e]; exact hv
        · rw [if_neg e]; exact hδ h (by omega))
      exact ⟨μ', fun p hp => by rw [a1 p hp, upR_app, if_neg hp], a2, a3⟩
    by_cases c : i = 0
    · subst c
      rw [if_pos (by decide)]
      exact fin 0 (by decide)
    · rw [if_neg (nI_ne0 (by omega) (by omega))]
      exact fin _ (by unfold D0; rw [if_neg c]; rfl)
theorem mo_dist {μ : Blk} {b : Nat} {G : NB} {N : Nat} (M : Mod (μ 1) b G) (Wf : WF N G) (hb' : b ≤ 1792) : ∃ μ', f_X6_distances μ (nI b) = some μ' ∧ (∀ p, p ≠ 3 → μ' p = μ p) ∧ ∀ h, h < 6 → μ' 3 h = fI (dst G h) := by
  unfold f_X6_distances
  obtain ⟨μ1, a1, a2, a3⟩ := mo_dinit (b := b) 6 0 FU μ rfl (FU_big (by decide)) (fun h hh => absurd hh (by omega))
  obtain ⟨μ', b1, b2, b3⟩ := mo_drounds (b := b) (G := G) Wf hb' 5 1 FU μ1 D0 rfl (by decide) (FU_big (by decide)) (by rw [a1 1 (by decide)]; exact M) (fun h hh => ⟨a2 h hh, by unfold D0; split <;> omega⟩) (fun h hh => by
    refine ⟨fun z => ?_, fun z => ?_, fun i' hi' => absurd hi' (Nat.not_lt_zero _)⟩
    · have d0 : dst G h = 0 := by omega
      have h0 : h = 0 := by
        rcases dst_is G hh with q | q
        · have := q.2.1
          rw [d0] at this
          exact this
        · omega
      rw [d0, h0]; rfl
    · unfold D0
      by_cases c : h = 0
      · subst c
        have := dst_0 G
        omega
      · rw [if_neg c]; exact Or.inl rfl)
  exact ⟨μ', by rw [e0, a3, e1]; exact b1, fun p hp => (b2 p hp).trans (a1 p hp), b3⟩
