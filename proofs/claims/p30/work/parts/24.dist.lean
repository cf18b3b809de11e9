/-! distances: what they are, and that the class finds them -/
theorem php : ∀ (n : Nat) (f : Nat → Nat), (∀ i, i ≤ n → f i < n) → ∃ i j, i < j ∧ j ≤ n ∧ f i = f j
  | 0, f, h => absurd (h 0 (Nat.le_refl _)) (Nat.not_lt_zero _)
  | n + 1, f, h => by
    by_cases hx : ∃ i, i ≤ n ∧ f i = f (n + 1)
    · obtain ⟨i, hi, e⟩ := hx
      exact ⟨i, n + 1, by omega, Nat.le_refl _, e⟩
    · have hv := h (n + 1) (Nat.le_refl _)
      obtain ⟨i, j, h1, h2, h3⟩ := php n (fun i => if f i = n then f (n + 1) else f i) (fun i hi => by
        have hi2 := h i (by omega)
        have hne : f i ≠ f (n + 1) := fun e => hx ⟨i, hi, e⟩
        show (if f i = n then f (n + 1) else f i) < n
        split <;> omega)
      refine ⟨i, j, h1, by omega, ?_⟩
      have ni : f i ≠ f (n + 1) := fun e => hx ⟨i, by omega, e⟩
      have nj : f j ≠ f (n + 1) := fun e => hx ⟨j, h2, e⟩
      have h3 : (if f i = n then f (n + 1) else f i) = (if f j = n then f (n + 1) else f j) := h3
      split at h3 <;> split at h3 <;> omega
def edge (G : NB) (u v : Nat) : Prop := ∃ (k : Nat) (ff : Bool), k < G 0 0 ∧ opn G k ff = true ∧ hb G k ff = u ∧ ha G k ff = v
def rch (G : NB) : Nat → Nat → Prop
  | 0, h => h = 0
  | n + 1, h => rch G n h ∨ ∃ v, v < 6 ∧ edge G h v ∧ rch G n v
def lst (G : NB) (h d : Nat) : Prop := rch G d h ∧ ∀ n, rch G n h → d ≤ n
theorem rch_mono {G : NB} {h : Nat} : ∀ {n m : Nat}, n ≤ m → rch G n h → rch G m h := by
  intro n m hm hr
  obtain ⟨d, rfl⟩ : ∃ d, m = n + d := ⟨m - n, by omega⟩
  clear hm
  induction d with
  | zero => exact hr
  | succ d ih => exact Or.inl ih
theorem lst_ex {G : NB} {n h : Nat} (hr : rch G n h) : ∃ d, lst G h d := by
  obtain ⟨k, h1, h2⟩ := pk_least (fun n => rch G n h) ⟨n, hr⟩
  exact ⟨k, h1, fun m hm => by
    by_cases c : m < k
    · exact absurd hm (h2 m c)
    · omega⟩
theorem lst_down {G : NB} : ∀ (d h : Nat), h < 6 → lst G h d → ∀ i, i ≤ d → ∃ v, v < 6 ∧ lst G v i
  | 0, h, hh, hl, i, hi => ⟨h, hh, by rw [show i = 0 by omega]; exact hl⟩
  | d + 1, h, hh, hl, i, hi => by
    by_cases c : i = d + 1
    · exact ⟨h, hh, by rw [c]; exact hl⟩
    · rcases hl.1 with h1 | ⟨v, hv, he, hr⟩
      · exact absurd (hl.2 d h1) (by omega)
      · refine lst_down d v hv ⟨hr, fun n hn => ?_⟩ i (by omega)
        have := hl.2 (n + 1) (Or.inr ⟨v, hv, he, hn⟩)
        omega
theorem lst_un {G : NB} {h a b : Nat} (h1 : lst G h a) (h2 : lst G h b) : a = b := by
  have := h1.2 b h2.1
  have := h2.2 a h1.1
  omega
theorem lst_5 {G : NB} {h d : Nat} (hh : h < 6) (hl : lst G h d) : d ≤ 5 := by
  by_cases c : d ≤ 5
  · exact c
  · have key : ∀ i, ∃ v, i ≤ 6 → v < 6 ∧ lst G v i := fun i => by
      by_cases hi : i ≤ 6
      · obtain ⟨v, h1, h2⟩ := lst_down d h hh hl i (by omega)
        exact ⟨v, fun _ => ⟨h1, h2⟩⟩
      · exact ⟨0, fun z => absurd z hi⟩
    obtain ⟨f, hf⟩ := Classical.axiomOfChoice key
    obtain ⟨i, j, h1, h2, h3⟩ := php 6 f (fun i hi => (hf i hi).1)
    have e1 := (hf i (by omega)).2
    have e2 := (hf j h2).2
    rw [h3] at e1
    have := lst_un e1 e2
    omega
/-- d is the distance of the hall h; 1000 where there is no way -/
def isD (G : NB) (h d : Nat) : Prop := (d ≤ 5 ∧ lst G h d) ∨ (d = 1000 ∧ ∀ n, ¬ rch G n h)
theorem isD_ex (G : NB) {h : Nat} (hh : h < 6) : ∃ d, isD G h d := by
  by_cases c : ∃ n, rch G n h
  · obtain ⟨n, hn⟩ := c
    obtain ⟨d, hd⟩ := lst_ex hn
    exact ⟨d, Or.inl ⟨lst_5 hh hd, hd⟩⟩
  · exact ⟨1000, Or.inr ⟨rfl, fun n hn => c ⟨n, hn⟩⟩⟩
noncomputable def dst (G : NB) (h : Nat) : Nat := Classical.epsilon (fun d => isD G h d)
theorem dst_is (G : NB) {h : Nat} (hh : h < 6) : isD G h (dst G h) := Classical.epsilon_spec (isD_ex G hh)
theorem isD_un {G : NB} {h a b : Nat} (h1 : isD G h a) (h2 : isD G h b) : a = b := by
  rcases h1 with ⟨-, l1⟩ | ⟨e1, n1⟩ <;> rcases h2 with ⟨-, l2⟩ | ⟨e2, n2⟩
  · exact lst_un l1 l2
  · exact absurd l1.1 (n2 _)
  · exact absurd l2.1 (n1 _)
  · omega
theorem dst_0 (G : NB) : dst G 0 = 0 := isD_un (dst_is G (by decide)) (Or.inl ⟨by decide, rfl, fun n _ => Nat.zero_le n⟩)
theorem dst_le (G : NB) {h : Nat} (hh : h < 6) : dst G h ≤ 5 ∨ dst G h = 1000 := by
  rcases dst_is G hh with h1 | h1
  · exact Or.inl h1.1
  · exact Or.inr h1.1
theorem dst_edge {G : NB} {u v : Nat} (hu : u < 6) (hv : v < 6) (he : edge G u v) (hd : dst G v ≤ 5) : dst G u ≤ dst G v + 1 := by
  have lv : rch G (dst G v) v := by
    rcases dst_is G hv with h1 | h1
    · exact h1.2.1
    · omega
  have ru : rch G (dst G v + 1) u := Or.inr ⟨v, hv, he, lv⟩
  rcases dst_is G hu with h1 | h1
  · exact h1.2.2 _ ru
  · exact absurd ru (h1.2 _)
theorem dst_back {G : NB} {u d : Nat} (hu : u < 6) (hd : dst G u = d + 1) (h5 : d + 1 ≤ 5) : ∃ v, v < 6 ∧ edge G u v ∧ dst G v = d := by
  rcases dst_is G hu with h1 | h1
  · rw [hd] at h1
    rcases h1.2.1 with h2 | ⟨v, hv, he, hr⟩
    · have := h1.2.2 d h2
      omega
    · refine ⟨v, hv, he, isD_un (dst_is G hv) (Or.inl ⟨by omega, hr, fun n hn => ?_⟩)⟩
      have := h1.2.2 (n + 1) (Or.inr ⟨v, hv, he, hn⟩)
      omega
  · omega
/-- a row of numbers of halls, as the class writes it -/
def Dro (δ : Row) (D : Nat → Nat) : Prop := ∀ h, h < 6 → δ h = nI (D h) ∧ D h ≤ 1000
def Snd (G : NB) (D : Nat → Nat) : Prop := D 0 = 0 ∧ ∀ h, h < 6 → D h = 1000 ∨ (D h < 1000 ∧ rch G (D h) h)
def upN1 (D : Nat → Nat) (u v : Nat) : Nat → Nat := fun h => if h = u then v else D h
theorem dro_up {δ : Row} {D : Nat → Nat} (h : Dro δ D) {u v : Nat} (hu : u < 6) (hv : v ≤ 1000) : f_X5_put 6 δ (nI u) (nI v) = some (upd δ u (nI v)) ∧ Dro (upd δ u (nI v)) (upN1 D u v) := by
  refine ⟨put_k hu (by decide), fun x hx => ?_⟩
  have := h x hx
  rw [upd_app]
  unfold upN1
  by_cases c : x = u
  · rw [if_pos c, if_pos c]; exact ⟨rfl, hv⟩
  · rw [if_neg c, if_neg c]; exact this
theorem cl_near {δ : Row} {σ : Blk} {G : NB} {N : Nat} {D : Nat → Nat} (C : Cls σ G) (Wf : WF N G) (hδ : Dro δ D) {k : Nat} (hk : k < 12) (ff : Bool) : ∃ δ' D', f_X0_comeNearer δ σ (nI k) ff = some (opn G k ff && decide (D (ha G k ff) + 1 < D (hb G k ff)), δ') ∧ Dro δ' D' ∧ D' = (if opn G k ff = true ∧ D (ha G k ff) + 1 < D (hb G k ff) then upN1 D (hb G k ff) (D (ha G k ff) + 1) else D) := by
  obtain ⟨h1, h2⟩ := hb_lt Wf hk ff
  have db := hδ _ h1
  have da := hδ _ h2
  unfold f_X0_comeNearer opn
  rw [cl_ur C Wf hk, Option.bind_some, cl_goes C Wf hk, cl_hb C hk, cl_ha C hk]
  by_cases a : 0 < G 6 k
  · have : ¬ G 6 k = 0 := by omega
    refine ⟨δ, D, ?_, hδ, ?_⟩
    · simp [a, this]
    · simp [this]
  · have a0 : G 6 k = 0 := by omega
    rw [if_neg (by simp [a])]
    cases gg : gos G k ff with
    | false =>
      refine ⟨δ, D, ?_, hδ, ?_⟩
      · simp
      · simp
    | true =>
      simp only [Option.bind_some, if_true]
      rw [at_k h1 (by decide), at_k h2 (by decide), Option.bind_some, Option.bind_some, db.1, da.1, nI_1]
      by_cases c : D (ha G k ff) + 1 < D (hb G k ff)
      · obtain ⟨e1, e2⟩ := dro_up hδ h1 (show D (ha G k ff) + 1 ≤ 1000 by omega)
        refine ⟨_, _, ?_, e2, ?_⟩
        · rw [if_pos (nI_lt c (by omega)), e1]
          simp [a0, c]
        · simp [a0, c]
      · refine ⟨δ, D, ?_, hδ, ?_⟩
        · rw [if_neg (nI_nlt (by omega) (by omega))]
          simp [c]
        · simp [c]
def stp (G : NB) (D : Nat → Nat) (k : Nat) (ff : Bool) : Nat → Nat := if opn G k ff = true ∧ D (ha G k ff) + 1 < D (hb G k ff) then upN1 D (hb G k ff) (D (ha G k ff) + 1) else D
theorem stp_le {G : NB} {D : Nat → Nat} {k : Nat} {ff : Bool} (h : Nat) : stp G D k ff h ≤ D h := by
  unfold stp upN1
  split
  · dsimp only
    split
    · rename_i c e; rw [e]; omega
    · omega
  · omega
theorem stp_snd {G : NB} {N : Nat} {D : Nat → Nat} (Wf : WF N G) (S : Snd G D) {k : Nat} (hk : k < G 0 0) (ff : Bool) : Snd G (stp G D k ff) := by
  obtain ⟨h1, h2⟩ := hb_lt Wf (show k < 12 by have := Wf.2.1.1; omega) ff
  refine ⟨by have := stp_le (G := G) (D := D) (k := k) (ff := ff) 0; have := S.1; omega, fun h hh => ?_⟩
  unfold stp upN1
  split
  · rename_i c
    dsimp only
    split
    · rename_i e
      have hb0 := S.2 _ h1
      have sa := S.2 _ h2
      have : D (ha G k ff) < 1000 := by omega
      have db := S.2 _ h1
      right
      rcases sa with z | ⟨-, z⟩
      · omega
      · have hle : D (hb G k ff) ≤ 1000 := by rcases hb0 with z0 | ⟨z0, -⟩ <;> omega
        exact ⟨by omega, Or.inr ⟨ha G k ff, h2, ⟨k, ff, hk, c.1, e.symm, rfl⟩, z⟩⟩
    · exact S.2 h hh
  · exact S.2 h hh
theorem stp_done {G : NB} {D : Nat → Nat} {k : Nat} {ff : Bool} (ho : opn G k ff = true) : stp G D k ff (hb G k ff) ≤ D (ha G k ff) + 1 := by
  unfold stp upN1
  split
  · simp
  · rename_i c
    by_cases z : D (ha G k ff) + 1 < D (hb G k ff)
    · exact absurd ⟨ho, z⟩ c
    · omega
theorem b2i_or3 {α : Type} (F : Int32 → α) (a b c : Bool) : (if b2i a = 0 then (if b = true then F 1 else (if c = true then F 1 else F 0)) else F 1) = F (b2i ((a || b) || c)) := by cases a <;> cases b <;> cases c <;> rfl
/-- one pass over the stiles, from the j-th on -/
theorem cl_pass {σ : Blk} {G : NB} {N : Nat} (C : Cls σ G) (Wf : WF N G) : ∀ (d j n : Nat) (δ : Row) (D : Nat → Nat) (fl : Bool), j + d = G 0 0 → d < n → Dro δ D → Snd G D →
    ∃ δ' D' fl', f_X0_comeNearerByAll_L4 σ n δ (b2i fl) (nI j) = some (fl', δ') ∧ Dro δ' D' ∧ Snd G D' ∧ (∀ h, D' h ≤ D h) ∧ (∀ k ff, j ≤ k → k < G 0 0 → opn G k ff = true → D' (hb G k ff) ≤ D (ha G k ff) + 1) ∧ (fl' = false → D' = D ∧ fl = false) := by
  have hm := Wf.2.1.1
  intro d
  induction d with
  | zero =>
    intro j n δ D fl hj hn hδ S
    obtain ⟨n, rfl⟩ : ∃ m, n = m + 1 := ⟨n - 1, by omega⟩
    refine ⟨δ, D, fl, ?_, hδ, S, fun h => Nat.le_refl _, fun k ff h1 h2 => absurd h2 (by omega), fun h => ⟨rfl, h⟩⟩
    rw [f_X0_comeNearerByAll_L4, C.1 0 (by decide), if_pos (nI_le (by omega) (by omega))]
    cases fl <;> rfl
  | succ d ih =>
    intro j n δ D fl hj hn hδ S
    obtain ⟨n, rfl⟩ : ∃ m, n = m + 1 := ⟨n - 1, by omega⟩
    have hj12 : j < 12 := by omega
    obtain ⟨δ1, D1, e1, hδ1, hD1⟩ := cl_near C Wf hδ hj12 true
    obtain ⟨δ2, D2, e2, hδ2, hD2⟩ := cl_near C Wf hδ1 hj12 false
    have s1 : D1 = stp G D j true := hD1
    have s2 : D2 = stp G D1 j false := hD2
    have S1 : Snd G D1 := by rw [s1]; exact stp_snd Wf S (by omega) true
    have S2 : Snd G D2 := by rw [s2]; exact stp_snd Wf S1 (by omega) false
    obtain ⟨δ', D', fl', h1, h2, h3, h4, h5, h6⟩ := ih (j + 1) n δ2 D2 ((fl || (opn G j true && decide (D (ha G j true) + 1 < D (hb G j true)))) || (opn G j false && decide (D1 (ha G j false) + 1 < D1 (hb G j false)))) (by omega) (by omega) hδ2 S2
    have l1 : ∀ h, D1 h ≤ D h := fun h => by rw [s1]; exact stp_le h
    have l2 : ∀ h, D2 h ≤ D1 h := fun h => by rw [s2]; exact stp_le h
    refine ⟨δ', D', fl', ?_, h2, h3, fun h => by have := h4 h; have := l1 h; have := l2 h; omega, fun k ff ha1 ha2 ho => ?_, fun hf => ?_⟩
    · rw [f_X0_comeNearerByAll_L4, C.1 0 (by decide), if_neg (nI_ge (by omega) (by omega)), e1, Option.bind_some]
      simp only []
      rw [e2, Option.bind_some]
      simp only []
      rw [nI_1]
      exact (b2i_or3 (fun v => f_X0_comeNearerByAll_L4 σ n δ2 v (nI (j + 1))) fl _ _).trans h1
    · by_cases c : k = j
      · subst c
        cases ff
        · have q := stp_done (G := G) (D := D1) (k := k) (ff := false) ho
          rw [← s2] at q
          have := h4 (hb G k false)
          have := l1 (ha G k false)
          omega
        · have q := stp_done (G := G) (D := D) (k := k) (ff := true) ho
          rw [← s1] at q
          have := h4 (hb G k true)
          have := l2 (hb G k true)
          omega
      · have := h5 k ff (by omega) ha2 ho
        have := l1 (ha G k ff)
        have := l2 (ha G k ff)
        omega
    · obtain ⟨z1, z2⟩ := h6 hf
      simp only [Bool.or_eq_false_iff] at z2
      obtain ⟨⟨z3, z4⟩, z5⟩ := z2
      have q1 : D1 = D := by
        rw [s1]; unfold stp
        rw [if_neg (fun c => by simp [c.1, c.2] at z4)]
      have q2 : D2 = D1 := by
        rw [s2]; unfold stp
        rw [if_neg (fun c => by simp [c.1, c.2] at z5)]
      exact ⟨by rw [z1, q2, q1], z3⟩
theorem edge_lt {G : NB} {N : Nat} (Wf : WF N G) {u v : Nat} (h : edge G u v) : u < 6 ∧ v < 6 := by
  obtain ⟨k, ff, h1, h2, rfl, rfl⟩ := h
  exact hb_lt Wf (by have := Wf.2.1.1; omega) ff
/-- after r passes every hall within r steps is as near as it is -/
def Cmp (G : NB) (D : Nat → Nat) (r : Nat) : Prop := ∀ n h, n ≤ r → h < 6 → rch G n h → D h ≤ n
theorem dst_of {G : NB} {D : Nat → Nat} (S : Snd G D) (Q : Cmp G D 5) {h : Nat} (hh : h < 6) : D h = dst G h := by
  refine isD_un (G := G) (h := h) ?_ (dst_is G hh)
  by_cases c : ∃ n, rch G n h
  · obtain ⟨n, hn⟩ := c
    obtain ⟨d, hd⟩ := lst_ex hn
    have d5 := lst_5 hh hd
    have l := Q d h d5 hh hd.1
    rcases S.2 h hh with s | ⟨-, s⟩
    · omega
    · have := hd.2 _ s
      have e : D h = d := by omega
      rw [e]
      exact Or.inl ⟨d5, hd⟩
  · rcases S.2 h hh with s | ⟨-, s⟩
    · exact Or.inr ⟨s, fun n hn => c ⟨n, hn⟩⟩
    · exact absurd ⟨_, s⟩ c
theorem cl_rounds {σ : Blk} {G : NB} {N : Nat} (C : Cls σ G) (Wf : WF N G) : ∀ (d r n : Nat) (δ : Row) (D : Nat → Nat) (fl : Bool), r + d = 6 → 1 ≤ r → d < n → Dro δ D → Snd G D → Cmp G D (r - 1) → (fl = false → Cmp G D 5) →
    ∃ δ', f_X0_measureDistances_L37 σ n δ (b2i fl) (nI r) = some δ' ∧ ∀ h, h < 6 → δ' h = nI (dst G h) := by
  intro d
  induction d with
  | zero =>
    intro r n δ D fl hr h1 hn hδ S Q Qf
    obtain ⟨n, rfl⟩ : ∃ m, n = m + 1 := ⟨n - 1, by omega⟩
    have hr6 : r = 6 := by omega
    subst hr6
    refine ⟨δ, by rw [f_X0_measureDistances_L37, if_pos (by decide)], fun h hh => ?_⟩
    rw [(hδ h hh).1, dst_of S Q hh]
  | succ d ih =>
    intro r n δ D fl hr h1 hn hδ S Q Qf
    obtain ⟨n, rfl⟩ : ∃ m, n = m + 1 := ⟨n - 1, by omega⟩
    rw [f_X0_measureDistances_L37, e6, if_neg (nI_ge (by omega) (by decide))]
    cases fl with
    | false =>
      rw [if_pos (by decide)]
      exact ⟨δ, rfl, fun h hh => by rw [(hδ h hh).1, dst_of S (Qf rfl) hh]⟩
    | true =>
      rw [if_neg (by decide)]
      have hm := Wf.2.1.1
      obtain ⟨δ', D', fl', e, hδ', S', l, dn, ch⟩ := cl_pass C Wf (G 0 0) 0 FU δ D false (by omega) (FU_big (by omega)) hδ S
      rw [show (nI 0 : Int32) = b2i false from by decide] at e
      have e2 : f_X0_comeNearerByAll δ σ = some (fl', δ') := by
        unfold f_X0_comeNearerByAll
        rw [show (0 : Int32) = b2i false from rfl]
        exact e
      rw [e2, Option.bind_some]
      simp only []
      rw [nI_1]
      refine ih (r + 1) n δ' D' fl' (by omega) (by omega) (by omega) hδ' S' (fun m h hm2 hh hr2 => ?_) (fun hf => ?_)
      · cases m with
        | zero =>
          have : h = 0 := hr2
          have s0 := S'.1
          rw [this]; omega
        | succ m =>
          rcases hr2 with hr2 | ⟨v, hv, he, hrv⟩
          · have := Q m h (by omega) hh hr2
            have := l h
            omega
          · obtain ⟨k, ff, a1, a2, a3, a4⟩ := he
            have q := dn k ff (Nat.zero_le _) a1 a2
            rw [a3, a4] at q
            have := Q m v (by omega) hv hrv
            omega
      · obtain ⟨q1, -⟩ := ch hf
        intro m
        induction m with
        | zero =>
          intro h _ hh hr2
          have : h = 0 := hr2
          have s0 := S'.1
          rw [this]; omega
        | succ m ihm =>
          intro h h5 hh hr2
          rcases hr2 with hr2 | ⟨v, hv, he, hrv⟩
          · have := ihm h (by omega) hh hr2
            omega
          · obtain ⟨k, ff, a1, a2, a3, a4⟩ := he
            have q := dn k ff (Nat.zero_le _) a1 a2
            rw [a3, a4, ← q1] at q
            have := ihm v (by omega) hv hrv
            omega
def D0 : Nat → Nat := fun h => if h = 0 then 0 else 1000
theorem cl_init {σ : Blk} : ∀ (d i n : Nat) (δ : Row), i + d = 6 → d < n → (∀ h, h < i → δ h = nI (D0 h)) → ∃ δ', Dro δ' D0 ∧ f_X0_measureDistances_L2 σ n δ (nI i) = f_X0_measureDistances_L37 σ FU δ' 1 1 := by
  intro d
  induction d with
  | zero =>
    intro i n δ hi hn hδ
    obtain ⟨n, rfl⟩ : ∃ m, n = m + 1 := ⟨n - 1, by omega⟩
    have hi6 : i = 6 := by omega
    subst hi6
    refine ⟨δ, fun h hh => ⟨hδ h hh, by unfold D0; split <;> omega⟩, ?_⟩
    rw [f_X0_measureDistances_L2, if_pos (by decide)]
  | succ d ih =>
    intro i n δ hi hn hδ
    obtain ⟨n, rfl⟩ : ∃ m, n = m + 1 := ⟨n - 1, by omega⟩
    rw [f_X0_measureDistances_L2, e6, if_neg (nI_ge (by omega) (by decide))]
    by_cases c : i = 0
    · subst c
      rw [if_pos (by decide), put_k (by decide) (by decide), Option.bind_some, nI_1]
      exact ih 1 n _ (by omega) (by omega) (fun h hh => by rw [show h = 0 by omega]; rfl)
    · rw [if_neg (nI_ne0 (by omega) (by omega)), put_k (by omega) (by decide), Option.bind_some, nI_1]
      refine ih (i + 1) n _ (by omega) (by omega) (fun h hh => ?_)
      rw [upd_app]
      by_cases e : h = i
      · rw [if_pos e, e]; unfold D0; rw [if_neg c]; exact e1000
      · rw [if_neg e]; exact hδ h (by omega)
theorem cl_dist {δ : Row} {σ : Blk} {G : NB} {N : Nat} (C : Cls σ G) (Wf : WF N G) : ∃ δ', f_X0_measureDistances δ σ = some δ' ∧ ∀ h, h < 6 → δ' h = nI (dst G h) := by
  unfold f_X0_measureDistances
  obtain ⟨δ1, h1, h2⟩ := cl_init (σ := σ) 6 0 FU δ rfl (FU_big (by decide)) (fun h hh => absurd hh (by omega))
  rw [show (nI 0 : Int32) = 0 from nI_0] at h2
  rw [h2, show (1 : Int32) = b2i true from rfl]
  have h3 := cl_rounds C Wf 5 1 FU δ1 D0 true rfl (by decide) (FU_big (by decide)) h1 ⟨rfl, fun h hh => ?_⟩ (fun n h hn hh hr => ?_) (fun z => by cases z)
  · exact h3
  · unfold D0
    by_cases c : h = 0
    · right; rw [if_pos c]; exact ⟨by decide, c⟩
    · left; rw [if_neg c]
  · have : n = 0 := by omega
    subst this
    have : h = 0 := hr
    rw [this]
    exact Nat.le_refl _
