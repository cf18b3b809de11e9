/-! class and reference side by side -/
theorem Mod.same {b : Nat} {μ μ' : Blk} {G : NB} (S : Same b μ μ') (hm : G 0 0 ≤ 12) {u : Nat} (hu : 256 * u + 256 ≤ b ∨ b + 256 ≤ 256 * u) (M : Mod (μ 1) (256 * u) G) : Mod (μ' 1) (256 * u) G := mod_blk S.2 hu M hm
/-- the text, in both -/
def Tx (χ μ : Blk) : Prop := ∃ t : Nat, t ≤ 60 ∧ χ 0 0 = nI t ∧ μ 0 2 = nI t ∧ ∀ i, i < t → ∃ c : Nat, 32 ≤ c ∧ c ≤ 126 ∧ χ 1 i = nI c ∧ μ 2 i = nI c
def St (N : Nat) (G : NB) (z : Nat) (H : Nat → NB) (hs : Int32) (n0 n1 : Blk) (ζ : Row) (η : Nat → Blk) (χ μ : Blk) : Prop :=
  WF N G ∧ Cls n0 G ∧ Mod (μ 1) 0 G ∧ Hst N ζ η (μ 1) z H ∧ μ 0 0 = nI z ∧ ((hs = 0 ∧ μ 0 1 = 0) ∨ (hs = 1 ∧ μ 0 1 = 1 ∧ ∃ Gs, WF N Gs ∧ Cls n1 Gs ∧ Mod (μ 1) 1536 Gs)) ∧ Tx χ μ
theorem St.wf {N : Nat} {G : NB} {z : Nat} {H : Nat → NB} {hs : Int32} {n0 n1 : Blk} {ζ : Row} {η : Nat → Blk} {χ μ : Blk} (S : St N G z H hs n0 n1 ζ η χ μ) : WF N G := S.1
theorem St.cl {N : Nat} {G : NB} {z : Nat} {H : Nat → NB} {hs : Int32} {n0 n1 : Blk} {ζ : Row} {η : Nat → Blk} {χ μ : Blk} (S : St N G z H hs n0 n1 ζ η χ μ) : Cls n0 G := S.2.1
theorem St.mo {N : Nat} {G : NB} {z : Nat} {H : Nat → NB} {hs : Int32} {n0 n1 : Blk} {ζ : Row} {η : Nat → Blk} {χ μ : Blk} (S : St N G z H hs n0 n1 ζ η χ μ) : Mod (μ 1) 0 G := S.2.2.1
theorem St.hi {N : Nat} {G : NB} {z : Nat} {H : Nat → NB} {hs : Int32} {n0 n1 : Blk} {ζ : Row} {η : Nat → Blk} {χ μ : Blk} (S : St N G z H hs n0 n1 ζ η χ μ) : Hst N ζ η (μ 1) z H := S.2.2.2.1
theorem St.hz {N : Nat} {G : NB} {z : Nat} {H : Nat → NB} {hs : Int32} {n0 n1 : Blk} {ζ : Row} {η : Nat → Blk} {χ μ : Blk} (S : St N G z H hs n0 n1 ζ η χ μ) : μ 0 0 = nI z := S.2.2.2.2.1
theorem St.sv {N : Nat} {G : NB} {z : Nat} {H : Nat → NB} {hs : Int32} {n0 n1 : Blk} {ζ : Row} {η : Nat → Blk} {χ μ : Blk} (S : St N G z H hs n0 n1 ζ η χ μ) : (hs = 0 ∧ μ 0 1 = 0) ∨ (hs = 1 ∧ μ 0 1 = 1 ∧ ∃ Gs, WF N Gs ∧ Cls n1 Gs ∧ Mod (μ 1) 1536 Gs) := S.2.2.2.2.2.1
theorem St.tx {N : Nat} {G : NB} {z : Nat} {H : Nat → NB} {hs : Int32} {n0 n1 : Blk} {ζ : Row} {η : Nat → Blk} {χ μ : Blk} (S : St N G z H hs n0 n1 ζ η χ μ) : Tx χ μ := S.2.2.2.2.2.2
def Inv (N : Nat) (hs : Int32) (n0 n1 : Blk) (ζ : Row) (η : Nat → Blk) (χ μ : Blk) : Prop := ∃ G z H, St N G z H hs n0 n1 ζ η χ μ
theorem St.mono {N M : Nat} {G : NB} {z : Nat} {H : Nat → NB} {hs : Int32} {n0 n1 : Blk} {ζ : Row} {η : Nat → Blk} {χ μ : Blk} (S : St N G z H hs n0 n1 ζ η χ μ) (h : N ≤ M) (h2 : M ≤ 536870912) : St M G z H hs n0 n1 ζ η χ μ := by
  refine ⟨wf_mono S.wf h h2, S.cl, S.mo, ⟨S.hi.1, S.hi.2.1, S.hi.2.2.1, fun i hi => ⟨(S.hi.2.2.2 i hi).1, wf_mono (S.hi.2.2.2 i hi).2 h h2⟩⟩, S.hz, ?_, S.tx⟩
  rcases S.sv with s | ⟨s1, s2, Gs, s3, s4⟩
  · exact .inl s
  · exact .inr ⟨s1, s2, Gs, wf_mono s3 h h2, s4⟩
/-- what both write into the state itself -/
theorem St.chg {N M : Nat} {G G' : NB} {z : Nat} {H : Nat → NB} {hs : Int32} {n0 n0' n1 : Blk} {ζ : Row} {η : Nat → Blk} {χ χ' μ μ' : Blk} (S : St N G z H hs n0 n1 ζ η χ μ) (h : N ≤ M) (h2 : M ≤ 536870912) (W : WF M G') (C : Cls n0' G') (Mo : Mod (μ' 1) 0 G') (h0 : ∀ j, j < 3 → μ' 0 j = μ 0 j) (h2' : μ' 2 = μ 2) (out : ∀ j, 256 ≤ j → j < 1792 → μ' 1 j = μ 1 j) (x0 : χ' 0 0 = χ 0 0) (x1 : χ' 1 = χ 1) : St M G' z H hs n0' n1 ζ η χ' μ' := by
  have T := S.mono h h2
  refine ⟨W, C, Mo, ⟨T.hi.1, T.hi.2.1, T.hi.2.2.1, fun i hi => ⟨?_, (T.hi.2.2.2 i hi).2⟩⟩, by rw [h0 0 (by decide)]; exact T.hz, ?_, ?_⟩
  · have hz := T.hi.1
    exact (T.hi.2.2.2 i hi).1.shift (T.hi.2.2.2 i hi).2.2.1.1 (fun j hj => out _ (by omega) (by omega))
  · rw [h0 1 (by decide)]
    rcases T.sv with s | ⟨s1, s2, Gs, s3, s4, s5⟩
    · exact .inl s
    · exact .inr ⟨s1, s2, Gs, s3, s4, s5.shift s3.2.1.1 (fun j hj => out _ (by omega) (by omega))⟩
  · obtain ⟨t, t1, t2, t3, t4⟩ := T.tx
    exact ⟨t, t1, by rw [x0]; exact t2, by rw [h0 2 (by decide)]; exact t3, by rw [x1, h2']; exact t4⟩
theorem St.chg' {N M : Nat} {G G' : NB} {z : Nat} {H : Nat → NB} {hs : Int32} {n0 n0' n1 : Blk} {ζ : Row} {η : Nat → Blk} {χ μ μ' : Blk} (S : St N G z H hs n0 n1 ζ η χ μ) (h : N ≤ M) (h2 : M ≤ 536870912) (W : WF M G') (C : Cls n0' G') (Mo : Mod (μ' 1) 0 G') (sm : Same 0 μ μ') : St M G' z H hs n0' n1 ζ η χ μ' :=
  S.chg h h2 W C Mo (fun j _ => congrFun (sm.1 0 (by decide)) j) (sm.1 2 (by decide)) (fun j h1 _ => sm.2 j (.inr (by omega))) rfl rfl
/-- both record the state -/
theorem St.rec {N : Nat} {G : NB} {z : Nat} {H : Nat → NB} {hs : Int32} {n0 n1 : Blk} {ζ : Row} {η : Nat → Blk} {χ μ : Blk} (S : St N G z H hs n0 n1 ζ η χ μ) : ∃ ζ' η' μ', f_X2_keep ζ η n0 = some (ζ', η') ∧ f_X6_records μ = some μ' ∧ St N G (min (z + 1) 5) (pushH z H G) hs n0 n1 ζ' η' χ μ' ∧ (∀ p j, p ≠ 1 → ¬ (p = 0 ∧ j = 0) → μ' p j = μ p j) := by
  obtain ⟨hz, h1, ⟨o, ho, h0, hη⟩, hH⟩ := S.hi
  obtain ⟨ζ', η', o', a1, a2, a3, a4, a5⟩ := cl_keep S.cl hz h1 ho h0 hη
  obtain ⟨μ', b1, b2, b3, b4, b5, b6⟩ := mo_records S.mo S.wf hz S.hz hH
  refine ⟨ζ', η', μ', a1, b1, ⟨S.wf, S.cl, b5, ⟨by omega, a2, ⟨o', a3, a4, a5⟩, b4⟩, b2, ?_, ?_⟩, b3⟩
  · rw [b3 0 1 (by decide) (by decide)]
    rcases S.sv with s | ⟨s1, s2, Gs, s3, s4, s5⟩
    · exact .inl s
    · exact .inr ⟨s1, s2, Gs, s3, s4, s5.shift s3.2.1.1 (fun j _ => b6 _ (by omega))⟩
  · obtain ⟨t, t1, t2, t3, t4⟩ := S.tx
    refine ⟨t, t1, t2, by rw [b3 0 2 (by decide) (by decide)]; exact t3, fun i hi => ?_⟩
    rw [b3 2 i (by decide) (by simp)]
    exact t4 i hi
/-- both answer alike, and stay alike -/
def Sim (N : Nat) (hs : Int32) (n1 χ : Blk) (a : Option (Int32 × Blk × Row × (Nat → Blk))) (b : Option (Int32 × Blk)) : Prop := ∃ r n0' ζ' η' μ', a = some (r, n0', ζ', η') ∧ b = some (r, μ') ∧ Inv N hs n0' n1 ζ' η' χ μ'
theorem St.no {N M : Nat} {G : NB} {z : Nat} {H : Nat → NB} {hs : Int32} {n0 n1 : Blk} {ζ : Row} {η : Nat → Blk} {χ μ : Blk} (S : St N G z H hs n0 n1 ζ η χ μ) (h : N ≤ M) (h2 : M ≤ 536870912) (v : Int32) : Sim M hs n1 χ (some (v, n0, ζ, η)) (some (v, μ)) := ⟨v, n0, ζ, η, μ, rfl, rfl, G, z, H, S.mono h h2⟩
theorem in_nI {x : Int32} {a b : Nat} (ha : a < 2 ^ 31) (hb : b < 2 ^ 31) : f_X6_in x (nI a) (nI b) = true ↔ ∃ n : Nat, a ≤ n ∧ n ≤ b ∧ x = nI n := by
  unfold f_X6_in
  constructor
  · intro h
    by_cases h1 : x < nI a
    · rw [if_pos h1] at h; cases h
    · rw [if_neg h1] at h
      by_cases h2 : nI b < x
      · rw [if_pos h2] at h; cases h
      · rw [Int32.lt_iff_toInt_lt, nI_toInt ha] at h1
        rw [Int32.lt_iff_toInt_lt, nI_toInt hb] at h2
        obtain ⟨j, hj, rfl⟩ := nI_of (x := x) (by rw [Int32.lt_iff_toInt_lt, show (0 : Int32).toInt = 0 by decide]; omega)
        rw [nI_toInt hj] at h1 h2
        exact ⟨j, by omega, by omega, rfl⟩
  · rintro ⟨n, h1, h2, rfl⟩
    rw [if_neg (nI_nlt (by omega) (by omega)), if_neg (nI_nlt (by omega) (by omega))]
theorem in_ppl (x : Int32) : f_X5_isManyPeople x = f_X6_in x 1 99 := rfl
theorem in_hrs (x : Int32) : f_X5_isManyHours x = f_X6_in x 1 99 := rfl
theorem i32_le_lt (x a b : Int32) (h : b.toInt = a.toInt + 1) : b ≤ x ↔ a < x := by
  rw [Int32.le_iff_toInt_le, Int32.lt_iff_toInt_lt]; omega
theorem in_hall (x : Int32) : f_X5_isHall x = f_X6_in x 0 5 := by
  unfold f_X5_isHall f_X6_in
  by_cases h : x < 0
  · rw [if_pos h, if_pos h]
  · rw [if_neg h, if_neg h]
    by_cases g : 6 ≤ x
    · rw [if_pos g, if_pos ((i32_le_lt x 5 6 (by decide)).mp g)]
    · rw [if_neg g, if_neg (fun c => g ((i32_le_lt x 5 6 (by decide)).mpr c))]
theorem in_ctr (x : Int32) : f_X5_isCounter x = f_X6_in x 0 3 := by
  unfold f_X5_isCounter f_X6_in
  by_cases h : x < 0
  · rw [if_pos h, if_pos h]
  · rw [if_neg h, if_neg h]
    by_cases g : 4 ≤ x
    · rw [if_pos g, if_pos ((i32_le_lt x 3 4 (by decide)).mp g)]
    · rw [if_neg g, if_neg (fun c => g ((i32_le_lt x 3 4 (by decide)).mpr c))]
theorem b_ext {a b : Bool} (h : a = true ↔ b = true) : a = b := by
  cases a <;> cases b <;> simp_all
theorem in_hwr (x : Int32) : f_X5_isHallWithRoom x = f_X6_isHall x := by
  have e : f_X6_isHall x = f_X6_in x 1 5 := rfl
  rw [e]
  apply b_ext
  rw [e1, e5, in_nI (by decide) (by decide)]
  have hh : f_X5_isHallWithRoom x = (if f_X5_isHall x = true then (if x = 0 then false else true) else false) := rfl
  rw [hh, in_hall]
  constructor
  · intro h
    by_cases g : f_X6_in x 0 5 = true
    · rw [if_pos g] at h
      rw [e0, e5, in_nI (by decide) (by decide)] at g
      obtain ⟨n, g1, g2, rfl⟩ := g
      refine ⟨n, ?_, g2, rfl⟩
      by_cases y : n = 0
      · subst y; rw [if_pos (by decide)] at h; cases h
      · omega
    · rw [if_neg g] at h; cases h
  · rintro ⟨n, h1, h2, rfl⟩
    have g : f_X6_in (nI n) 0 5 = true := by
      rw [e0, e5]; exact (in_nI (by decide) (by decide)).mpr ⟨n, by omega, h2, rfl⟩
    have y : ¬ nI n = (0 : Int32) := by
      rw [e0]; intro c
      have := (nI_eq (by omega) (by decide)).mp c
      omega
    rw [if_pos g, if_neg y]
theorem in_slip (x : Int32) : f_X5_isSlip x = f_X6_isSlip x := by
  have e : f_X6_isSlip x = (if x = 0 then true else (if f_X6_in x 2 9 = true then true else false)) := rfl
  rw [e]
  unfold f_X5_isSlip
  by_cases h : x = 0
  · rw [if_pos h, if_pos h]
  · rw [if_neg h, if_neg h]
    show f_X6_in x 2 9 = _
    cases f_X6_in x 2 9 <;> rfl
/-- a cell of the state, in the class -/
theorem cl_set {σ : Blk} {G : NB} (C : Cls σ G) {p k v : Nat} (hp : p < 8) : Cls (upR σ p (upd (σ p) k (nI v))) (setN G p k v) := by
  have cell : ∀ q j, σ q j = nI (G q j) → upR σ p (upd (σ p) k (nI v)) q j = nI (setN G p k v q j) := by
    intro q j h
    rw [upR_app, setN_app]
    by_cases e : q = p
    · subst e
      rw [if_pos rfl, upd_app]
      by_cases f : j = k
      · rw [if_pos f, if_pos ⟨rfl, f⟩]
      · rw [if_neg f, if_neg (fun c => f c.2)]; exact h
    · rw [if_neg e, if_neg (fun c => e c.1)]; exact h
  refine ⟨fun i hi => cell _ _ (C.1 i hi), fun h h1 h2 => cell _ _ (C.2.1 h h1 h2), fun h h1 h2 => cell _ _ (C.2.2.1 h h1 h2), fun j hj => ?_, fun i hi => ?_⟩
  · have c := C.2.2.2.1 j hj
    exact ⟨cell _ _ c.1, cell _ _ c.2.1, cell _ _ c.2.2.1, cell _ _ c.2.2.2⟩
  · have c := C.2.2.2.2 i hi
    refine ⟨cell _ _ c.1, cell _ _ c.2.1, ?_, cell _ _ c.2.2.2⟩
    have a8 : setN G p k v 8 i = G 8 i := by rw [setN_app, if_neg (by omega)]
    have a9 : setN G p k v 9 i = G 9 i := by rw [setN_app, if_neg (by omega)]
    rw [upR_app, if_neg (by omega)]
    simp only [a8, a9]
    exact c.2.2.1
theorem wf_set5 {G : NB} {N : Nat} (Wf : WF N G) {k v : Nat} (hk : k < G 0 0) (hv : v ≤ 3) : WF N (setN G 5 k v) := by
  refine ⟨Wf.1, Wf.2.1, Wf.2.2.1, fun j hj => ?_, Wf.2.2.2.2.1, Wf.2.2.2.2.2.1, fun j h1 h2 => ?_, Wf.2.2.2.2.2.2.2⟩
  · have w := Wf.2.2.2.1 j hj
    refine ⟨w.1, w.2.1, ?_, w.2.2.2⟩
    rw [setN_app]; split
    · exact hv
    · exact w.2.2.1
  · have w := Wf.2.2.2.2.2.2.1 j h1 h2
    have h1' : G 0 0 ≤ j := h1
    refine ⟨?_, w.2⟩
    rw [setN_app, if_neg (by omega)]
    exact w.1
theorem wf_set6 {G : NB} {N : Nat} (Wf : WF N G) {k v : Nat} (hk : k < G 0 0) (hv : v ≤ 48) : WF N (setN G 6 k v) := by
  refine ⟨Wf.1, Wf.2.1, Wf.2.2.1, fun j hj => ?_, Wf.2.2.2.2.1, Wf.2.2.2.2.2.1, fun j h1 h2 => ?_, Wf.2.2.2.2.2.2.2⟩
  · have w := Wf.2.2.2.1 j hj
    refine ⟨w.1, w.2.1, w.2.2.1, ?_⟩
    rw [setN_app]; split
    · exact hv
    · exact w.2.2.2
  · have w := Wf.2.2.2.2.2.2.1 j h1 h2
    have h1' : G 0 0 ≤ j := h1
    refine ⟨w.1, ?_⟩
    rw [setN_app, if_neg (by omega)]
    exact w.2
