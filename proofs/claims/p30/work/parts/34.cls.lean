/-! the class's state, its history and its snapshot, over one picture in natural numbers -/
def inR (x a b : Int32) : Bool := if x < a then false else if b < x then false else true
theorem in_nI {x : Int32} {a b : Nat} (ha : a < 2 ^ 31) (hb : b < 2 ^ 31) : inR x (nI a) (nI b) = true ↔ ∃ n : Nat, a ≤ n ∧ n ≤ b ∧ x = nI n := by
  unfold inR
  constructor
  · intro h
    by_cases h1 : x < nI a
    · rw [if_pos h1] at h; cases h
    · rw [if_neg h1] at h
      by_cases h2 : nI b < x
      · rw [if_pos h2] at h; cases h
      · rw [Int32.lt_iff_toInt_lt, nI_toInt ha] at h1
        rw [Int32.lt_iff_toInt_lt, nI_toInt hb] at h2
        obtain ⟨j, hj, rfl⟩ := nI_of (x := x) (by rw [Int32.lt_iff_toInt_lt, show (0 : Int32).toInt = 0 by decide]; omega)
        rw [nI_toInt hj] at h1 h2
        exact ⟨j, by omega, by omega, rfl⟩
  · rintro ⟨n, h1, h2, rfl⟩
    rw [if_neg (nI_nlt (by omega) (by omega)), if_neg (nI_nlt (by omega) (by omega))]
theorem in_ppl (x : Int32) : f_X5_isManyPeople x = inR x 1 99 := rfl
theorem in_hrs (x : Int32) : f_X5_isManyHours x = inR x 1 99 := rfl
theorem i32_le_lt (x a b : Int32) (h : b.toInt = a.toInt + 1) : b ≤ x ↔ a < x := by
  rw [Int32.le_iff_toInt_le, Int32.lt_iff_toInt_lt]; omega
theorem in_hall (x : Int32) : f_X5_isHall x = inR x 0 5 := by
  unfold f_X5_isHall inR
  by_cases h : x < 0
  · rw [if_pos h, if_pos h]
  · rw [if_neg h, if_neg h]
    by_cases g : 6 ≤ x
    · rw [if_pos g, if_pos ((i32_le_lt x 5 6 (by decide)).mp g)]
    · rw [if_neg g, if_neg (fun c => g ((i32_le_lt x 5 6 (by decide)).mpr c))]
theorem in_ctr (x : Int32) : f_X5_isCounter x = inR x 0 3 := by
  unfold f_X5_isCounter inR
  by_cases h : x < 0
  · rw [if_pos h, if_pos h]
  · rw [if_neg h, if_neg h]
    by_cases g : 4 ≤ x
    · rw [if_pos g, if_pos ((i32_le_lt x 3 4 (by decide)).mp g)]
    · rw [if_neg g, if_neg (fun c => g ((i32_le_lt x 3 4 (by decide)).mpr c))]
theorem in_hwr (x : Int32) : f_X5_isHallWithRoom x = true ↔ ∃ n : Nat, 1 ≤ n ∧ n ≤ 5 ∧ x = nI n := by
  have hh : f_X5_isHallWithRoom x = (if f_X5_isHall x = true then (if x = 0 then false else true) else false) := rfl
  rw [hh, in_hall]
  constructor
  · intro h
    by_cases g : inR x 0 5 = true
    · rw [if_pos g] at h
      rw [e0, e5, in_nI (by decide) (by decide)] at g
      obtain ⟨n, g1, g2, rfl⟩ := g
      refine ⟨n, ?_, g2, rfl⟩
      by_cases y : n = 0
      · subst y; rw [if_pos (by decide)] at h; cases h
      · omega
    · rw [if_neg g] at h; cases h
  · rintro ⟨n, h1, h2, rfl⟩
    have g : inR (nI n) 0 5 = true := by
      rw [e0, e5]; exact (in_nI (by decide) (by decide)).mpr ⟨n, by omega, h2, rfl⟩
    have y : ¬ nI n = (0 : Int32) := by
      rw [e0]; intro c
      have := (nI_eq (by omega) (by decide)).mp c
      omega
    rw [if_pos g, if_neg y]
theorem in_slip {x : Int32} (h : f_X5_isSlip x = true) : ∃ v : Nat, v ≤ 9 ∧ v ≠ 1 ∧ x = nI v := by
  unfold f_X5_isSlip at h
  by_cases f0 : x = 0
  · exact ⟨0, by decide, by decide, by rw [f0, e0]⟩
  · rw [if_neg f0] at h
    have h' : inR x 2 9 = true := h
    obtain ⟨v, v2, v9, rfl⟩ := (in_nI (a := 2) (b := 9) (by decide) (by decide)).mp h'
    exact ⟨v, v9, by omega, rfl⟩
theorem in_cases {x a b : Int32} (h : ¬ inR x a b = true) : x < a ∨ (¬ x < a ∧ ¬ x ≤ b) := by
  unfold inR at h
  by_cases h1 : x < a
  · exact .inl h1
  · rw [if_neg h1] at h
    refine .inr ⟨h1, fun c => h ?_⟩
    rw [if_neg (by rw [Int32.lt_iff_toInt_lt]; rw [Int32.le_iff_toInt_le] at c; omega)]
/-- the snapshot -/
def Sv (N : Nat) (hs : Int32) (n1 : Blk) : Option NB → Prop
  | none => hs = 0
  | some Gs => hs = 1 ∧ WF N Gs ∧ Cls n1 Gs
def St (N : Nat) (G : NB) (z : Nat) (H : Nat → NB) (P : Option NB) (hs : Int32) (n0 n1 : Blk) (ζ : Row) (η : Nat → Blk) : Prop :=
  WF N G ∧ Cls n0 G ∧ Hst N ζ η z H ∧ Sv N hs n1 P
theorem St.wf {N : Nat} {G : NB} {z : Nat} {H : Nat → NB} {P : Option NB} {hs : Int32} {n0 n1 : Blk} {ζ : Row} {η : Nat → Blk} (S : St N G z H P hs n0 n1 ζ η) : WF N G := S.1
theorem St.cl {N : Nat} {G : NB} {z : Nat} {H : Nat → NB} {P : Option NB} {hs : Int32} {n0 n1 : Blk} {ζ : Row} {η : Nat → Blk} (S : St N G z H P hs n0 n1 ζ η) : Cls n0 G := S.2.1
theorem St.hi {N : Nat} {G : NB} {z : Nat} {H : Nat → NB} {P : Option NB} {hs : Int32} {n0 n1 : Blk} {ζ : Row} {η : Nat → Blk} (S : St N G z H P hs n0 n1 ζ η) : Hst N ζ η z H := S.2.2.1
theorem St.sv {N : Nat} {G : NB} {z : Nat} {H : Nat → NB} {P : Option NB} {hs : Int32} {n0 n1 : Blk} {ζ : Row} {η : Nat → Blk} (S : St N G z H P hs n0 n1 ζ η) : Sv N hs n1 P := S.2.2.2
theorem St.mono {M : Nat} {N : Nat} {G : NB} {z : Nat} {H : Nat → NB} {P : Option NB} {hs : Int32} {n0 n1 : Blk} {ζ : Row} {η : Nat → Blk} (S : St N G z H P hs n0 n1 ζ η) (h : N ≤ M) (h2 : M ≤ 536870912) : St M G z H P hs n0 n1 ζ η := by
  refine ⟨wf_mono S.wf h h2, S.cl, ⟨S.hi.1, S.hi.2.1, S.hi.2.2.1, fun i hi => wf_mono (S.hi.2.2.2 i hi) h h2⟩, ?_⟩
  have s := S.sv
  cases P with
  | none => exact s
  | some Gs => exact ⟨s.1, wf_mono s.2.1 h h2, s.2.2⟩
/-- the state itself is written -/
theorem St.chg {M : Nat} {G' : NB} {n0' : Blk} {N : Nat} {G : NB} {z : Nat} {H : Nat → NB} {P : Option NB} {hs : Int32} {n0 n1 : Blk} {ζ : Row} {η : Nat → Blk} (S : St N G z H P hs n0 n1 ζ η) (h : N ≤ M) (h2 : M ≤ 536870912) (W : WF M G') (C : Cls n0' G') : St M G' z H P hs n0' n1 ζ η :=
  ⟨W, C, (S.mono h h2).hi, (S.mono h h2).sv⟩
/-- the state is recorded -/
theorem St.rec {N : Nat} {G : NB} {z : Nat} {H : Nat → NB} {P : Option NB} {hs : Int32} {n0 n1 : Blk} {ζ : Row} {η : Nat → Blk} (S : St N G z H P hs n0 n1 ζ η) : ∃ ζ' η', f_X2_keep ζ η n0 = some (ζ', η') ∧ St N G (min (z + 1) 5) (pushH z H G) P hs n0 n1 ζ' η' := by
  obtain ⟨hz, h1, ⟨o, ho, h0, hη⟩, hH⟩ := S.hi
  obtain ⟨ζ', η', o', a1, a2, a3, a4, a5⟩ := cl_keep S.cl hz h1 ho h0 hη
  refine ⟨ζ', η', a1, S.wf, S.cl, ⟨by omega, a2, ⟨o', a3, a4, a5⟩, fun i hi => ?_⟩, S.sv⟩
  by_cases c : z = 5
  · subst c
    rw [pushH_5]
    split
    · exact S.wf
    · exact hH (i + 1) (by omega)
  · rw [pushH_lt (by omega)]
    split
    · exact S.wf
    · exact hH i (by omega)
/-- what an action does: an error that changes nothing, or a state recorded and a new one -/
def Don (N : Nat) (G : NB) (z : Nat) (H : Nat → NB) (P : Option NB) (hs : Int32) (n0 n1 : Blk) (ζ : Row) (η : Nat → Blk) (E : Int32 → NB → Prop) (r : Int32) (n0' : Blk) (ζ' : Row) (η' : Nat → Blk) : Prop :=
  (r < 0 ∧ n0' = n0 ∧ ζ' = ζ ∧ η' = η) ∨ (¬ r < 0 ∧ ∃ G', E r G' ∧ St (N + 500000) G' (min (z + 1) 5) (pushH z H G) P hs n0' n1 ζ' η')
def Act (N : Nat) (G : NB) (z : Nat) (H : Nat → NB) (P : Option NB) (hs : Int32) (n0 n1 : Blk) (ζ : Row) (η : Nat → Blk) (E : Int32 → NB → Prop) (a : Option (Int32 × Blk × Row × (Nat → Blk))) : Prop :=
  ∃ r n0' ζ' η', a = some (r, n0', ζ', η') ∧ Don N G z H P hs n0 n1 ζ η E r n0' ζ' η'
theorem Act.no {N : Nat} {G : NB} {z : Nat} {H : Nat → NB} {P : Option NB} {hs : Int32} {n0 n1 : Blk} {ζ : Row} {η : Nat → Blk} {E : Int32 → NB → Prop} {v : Int32} (h : v < 0) : Act N G z H P hs n0 n1 ζ η E (some (v, n0, ζ, η)) := ⟨v, n0, ζ, η, rfl, .inl ⟨h, rfl, rfl, rfl⟩⟩
theorem Act.ok {N : Nat} {G : NB} {z : Nat} {H : Nat → NB} {P : Option NB} {hs : Int32} {n0 n1 : Blk} {ζ : Row} {η : Nat → Blk} {E : Int32 → NB → Prop} {n0' : Blk} {ζ' : Row} {η' : Nat → Blk} {v : Int32} {w : Nat} {G' : NB} (hv : v = nI w) (hw : w < 2 ^ 31) (hE : E v G') (S : St (N + 500000) G' (min (z + 1) 5) (pushH z H G) P hs n0' n1 ζ' η') : Act N G z H P hs n0 n1 ζ η E (some (v, n0', ζ', η')) :=
  ⟨v, n0', ζ', η', rfl, .inr ⟨by rw [hv]; exact nI_pos hw, G', hE, S⟩⟩
/-- a cell of the state -/
theorem cl_set {σ : Blk} {G : NB} (C : Cls σ G) {p k v : Nat} (hp : p < 8) : Cls (upR σ p (upd (σ p) k (nI v))) (setN G p k v) := by
  have cell : ∀ q j, σ q j = nI (G q j) → upR σ p (upd (σ p) k (nI v)) q j = nI (setN G p k v q j) := by
    intro q j h
    rw [upR_app, setN_app]
    by_cases e : q = p
    · subst e
      rw [if_pos rfl, upd_app]
      by_cases f : j = k
      · rw [if_pos f, if_pos ⟨rfl, f⟩]
      · rw [if_neg f, if_neg (fun c => f c.2)]; exact h
    · rw [if_neg e, if_neg (fun c => e c.1)]; exact h
  refine ⟨fun i hi => cell _ _ (C.1 i hi), fun h h1 h2 => cell _ _ (C.2.1 h h1 h2), fun h h1 h2 => cell _ _ (C.2.2.1 h h1 h2), fun j hj => ?_, fun i hi => ?_⟩
  · have c := C.2.2.2.1 j hj
    exact ⟨cell _ _ c.1, cell _ _ c.2.1, cell _ _ c.2.2.1, cell _ _ c.2.2.2⟩
  · have c := C.2.2.2.2 i hi
    refine ⟨cell _ _ c.1, cell _ _ c.2.1, ?_, cell _ _ c.2.2.2⟩
    have a8 : setN G p k v 8 i = G 8 i := by rw [setN_app, if_neg (by omega)]
    have a9 : setN G p k v 9 i = G 9 i := by rw [setN_app, if_neg (by omega)]
    rw [upR_app, if_neg (by omega)]
    simp only [a8, a9]
    exact c.2.2.1
theorem wf_set5 {G : NB} {N : Nat} (Wf : WF N G) {k v : Nat} (hk : k < G 0 0) (hv : v ≤ 3) : WF N (setN G 5 k v) := by
  refine ⟨Wf.1, Wf.2.1, Wf.2.2.1, fun j hj => ?_, Wf.2.2.2.2.1, Wf.2.2.2.2.2.1, fun j h1 h2 => ?_, Wf.2.2.2.2.2.2.2⟩
  · have w := Wf.2.2.2.1 j hj
    refine ⟨w.1, w.2.1, ?_, w.2.2.2⟩
    rw [setN_app]; split
    · exact hv
    · exact w.2.2.1
  · have w := Wf.2.2.2.2.2.2.1 j h1 h2
    have h1' : G 0 0 ≤ j := h1
    refine ⟨?_, w.2⟩
    rw [setN_app, if_neg (by omega)]
    exact w.1
theorem wf_set6 {G : NB} {N : Nat} (Wf : WF N G) {k v : Nat} (hk : k < G 0 0) (hv : v ≤ 48) : WF N (setN G 6 k v) := by
  refine ⟨Wf.1, Wf.2.1, Wf.2.2.1, fun j hj => ?_, Wf.2.2.2.2.1, Wf.2.2.2.2.2.1, fun j h1 h2 => ?_, Wf.2.2.2.2.2.2.2⟩
  · have w := Wf.2.2.2.1 j hj
    refine ⟨w.1, w.2.1, w.2.2.1, ?_⟩
    rw [setN_app]; split
    · exact hv
    · exact w.2.2.2
  · have w := Wf.2.2.2.2.2.2.1 j h1 h2
    have h1' : G 0 0 ≤ j := h1
    refine ⟨w.1, ?_⟩
    rw [setN_app, if_neg (by omega)]
    exact w.2
theorem wf_room {G : NB} {N : Nat} (Wf : WF N G) {h x : Nat} (h1 : 1 ≤ x) (h5 : x ≤ 500) (hx : G 2 h ≤ x) : WF N (setN G 1 h x) := by
  refine ⟨Wf.1, Wf.2.1, fun j j1 j6 => ?_, Wf.2.2.2.1, Wf.2.2.2.2.1, Wf.2.2.2.2.2.1, Wf.2.2.2.2.2.2.1, Wf.2.2.2.2.2.2.2⟩
  have w := Wf.2.2.1 j j1 j6
  have e : setN G 1 h x 2 j = G 2 j := by rw [setN_app, if_neg (by omega)]
  rw [e, setN_app]
  by_cases f : j = h
  · subst f; rw [if_pos ⟨rfl, rfl⟩]; exact ⟨h1, h5, hx⟩
  · rw [if_neg (fun c => f c.2)]; exact w
theorem wf_rate {G : NB} {N : Nat} (Wf : WF N G) {x : Nat} (h1 : 1 ≤ x) (h9 : x ≤ 99) : WF N (setN G 0 1 x) :=
  ⟨Wf.1, ⟨Wf.2.1.1, h1, h9, Wf.2.1.2.2.2⟩, Wf.2.2.1, Wf.2.2.2.1, Wf.2.2.2.2.1, Wf.2.2.2.2.2.1, Wf.2.2.2.2.2.2.1, Wf.2.2.2.2.2.2.2⟩
theorem wf_last {G : NB} {N : Nat} (Wf : WF N G) {x : Nat} (h1 : 1 ≤ x) (h9 : x ≤ 48) : WF N (setN G 0 2 x) :=
  ⟨Wf.1, ⟨Wf.2.1.1, Wf.2.1.2.1, Wf.2.1.2.2.1, h1, h9, Wf.2.1.2.2.2.2.2⟩, Wf.2.2.1, Wf.2.2.2.1, Wf.2.2.2.2.1, Wf.2.2.2.2.2.1, Wf.2.2.2.2.2.2.1, Wf.2.2.2.2.2.2.2⟩
theorem wf_slip {G : NB} {N : Nat} (Wf : WF N G) {i v : Nat} (hi : i < G 0 0 * 4) (h9 : v ≤ 9) (h1 : v ≠ 1) : WF N (setN (setN G 9 i 0) 8 i v) := by
  refine ⟨Wf.1, Wf.2.1, Wf.2.2.1, Wf.2.2.2.1, Wf.2.2.2.2.1, fun j hj => ?_, Wf.2.2.2.2.2.2.1, fun j j1 j2 => ?_⟩
  · have w := Wf.2.2.2.2.2.1 j hj
    by_cases f : j = i
    · subst f
      refine ⟨w.1, ?_, ?_, ?_, w.2.2.2.2⟩
      · simp [setN_app]; exact h9
      · simp [setN_app]; exact h1
      · simp [setN_app]
    · refine ⟨w.1, ?_, ?_, ?_, w.2.2.2.2⟩
      · simp [setN_app, f]; exact w.2.1
      · simp [setN_app, f]; exact w.2.2.1
      · simp [setN_app, f]; exact w.2.2.2.1
  · have j1' : G 0 0 * 4 ≤ j := j1
    have w := Wf.2.2.2.2.2.2.2 j j1' j2
    have f : ¬ j = i := by omega
    refine ⟨w.1, ?_, ?_, w.2.2.2⟩
    · simp [setN_app, f]; exact w.2.1
    · simp [setN_app, f]; exact w.2.2.1
theorem wf_cnt1 {G : NB} {N : Nat} (Wf : WF N G) {i v : Nat} (hi : i < G 0 0 * 4) (hv : v ≤ N) : WF N (setN G 7 i v) := by
  refine ⟨Wf.1, Wf.2.1, Wf.2.2.1, Wf.2.2.2.1, Wf.2.2.2.2.1, fun j hj => ?_, Wf.2.2.2.2.2.2.1, fun j j1 j2 => ?_⟩
  · have w := Wf.2.2.2.2.2.1 j hj
    refine ⟨?_, w.2⟩
    rw [setN_app]; split
    · exact hv
    · exact w.1
  · have j1' : G 0 0 * 4 ≤ j := j1
    have w := Wf.2.2.2.2.2.2.2 j j1' j2
    refine ⟨?_, w.2⟩
    rw [setN_app, if_neg (by omega)]
    exact w.1
def ag2 (G : NB) (k c1 c2 v : Nat) : NB := setN (setN G 7 (k * 4 + c1) v) 7 (k * 4 + c2) v
def agr (G : NB) (k : Nat) : NB := ag2 (ag2 G k 0 3 (max (G 7 (k * 4 + 0)) (G 7 (k * 4 + 3)))) k 1 2 (max (G 7 (k * 4 + 1)) (G 7 (k * 4 + 2)))
theorem wf_agr {G : NB} {N : Nat} (Wf : WF N G) {k : Nat} (hk : k < G 0 0) : WF N (agr G k) := by
  have hm := Wf.2.1.1
  have w0 := (Wf.2.2.2.2.2.1 (k * 4 + 0) (by omega)).1
  have w1 := (Wf.2.2.2.2.2.1 (k * 4 + 1) (by omega)).1
  have w2 := (Wf.2.2.2.2.2.1 (k * 4 + 2) (by omega)).1
  have w3 := (Wf.2.2.2.2.2.1 (k * 4 + 3) (by omega)).1
  have i0 : k * 4 + 0 < G 0 0 * 4 := by omega
  have i1 : k * 4 + 1 < G 0 0 * 4 := by omega
  have i2 : k * 4 + 2 < G 0 0 * 4 := by omega
  have i3 : k * 4 + 3 < G 0 0 * 4 := by omega
  exact wf_cnt1 (wf_cnt1 (wf_cnt1 (wf_cnt1 Wf i0 (Nat.max_le.mpr ⟨w0, w3⟩)) i3 (Nat.max_le.mpr ⟨w0, w3⟩)) i1 (Nat.max_le.mpr ⟨w1, w2⟩)) i2 (Nat.max_le.mpr ⟨w1, w2⟩)
theorem cl_pair {σ : Blk} {G : NB} {N : Nat} (C : Cls σ G) (Wf : WF N G) {k c1 c2 : Nat} (hk : k < 12) (h1 : c1 < 4) (h2 : c2 < 4) : ∃ σ', f_X1_makePairAgree σ (nI k) (nI c1) (nI c2) = some σ' ∧ Cls σ' (ag2 G k c1 c2 (max (G 7 (k * 4 + c1)) (G 7 (k * 4 + c2)))) := by
  have w1 := (Wf.2.2.2.2.2.1 (k * 4 + c1) (by omega)).1
  have w2 := (Wf.2.2.2.2.2.1 (k * 4 + c2) (by omega)).1
  have n := Wf.1
  unfold f_X1_makePairAgree
  rw [cl_countOf C hk h1, Option.bind_some, cl_countOf C hk h2, Option.bind_some]
  simp only [lt, ci_k]
  rw [nI_max (by omega) (by omega), put_k (by omega) (by decide), Option.bind_some, put_k (by omega) (by decide), Option.bind_some]
  exact ⟨_, rfl, cl_set (cl_set C (by decide)) (by decide)⟩
theorem cl_agr {σ : Blk} {G : NB} {N : Nat} (C : Cls σ G) (Wf : WF N G) {k : Nat} (hk : k < G 0 0) : ∃ σ', f_X1_makeAgree σ (nI k) = some σ' ∧ Cls σ' (agr G k) := by
  have hm := Wf.2.1.1
  have w0 := (Wf.2.2.2.2.2.1 (k * 4 + 0) (by omega)).1
  have w3 := (Wf.2.2.2.2.2.1 (k * 4 + 3) (by omega)).1
  obtain ⟨σ1, a1, a2⟩ := cl_pair C Wf (k := k) (c1 := 0) (c2 := 3) (by omega) (by decide) (by decide)
  have i0 : k * 4 + 0 < G 0 0 * 4 := by omega
  have i3 : k * 4 + 3 < G 0 0 * 4 := by omega
  have W1 : WF N (ag2 G k 0 3 (max (G 7 (k * 4 + 0)) (G 7 (k * 4 + 3)))) := wf_cnt1 (wf_cnt1 Wf i0 (Nat.max_le.mpr ⟨w0, w3⟩)) i3 (Nat.max_le.mpr ⟨w0, w3⟩)
  obtain ⟨σ2, b1, b2⟩ := cl_pair a2 W1 (k := k) (c1 := 1) (c2 := 2) (by omega) (by decide) (by decide)
  have g1 : ag2 G k 0 3 (max (G 7 (k * 4 + 0)) (G 7 (k * 4 + 3))) 7 (k * 4 + 1) = G 7 (k * 4 + 1) := by
    simp only [ag2, setN_app]; rw [if_neg (by omega), if_neg (by omega)]
  have g2 : ag2 G k 0 3 (max (G 7 (k * 4 + 0)) (G 7 (k * 4 + 3))) 7 (k * 4 + 2) = G 7 (k * 4 + 2) := by
    simp only [ag2, setN_app]; rw [if_neg (by omega), if_neg (by omega)]
  rw [g1, g2] at b2
  refine ⟨σ2, ?_, b2⟩
  unfold f_X1_makeAgree
  rw [e0, e3, a1, Option.bind_some, e1, e2, b1]
  rfl
def nst (G : NB) (a b : Nat) : NB := setN (setN (setN G 3 (G 0 0) a) 4 (G 0 0) b) 0 0 (G 0 0 + 1)
theorem wf_nst {G : NB} {N a b : Nat} (Wf : WF N G) (hm : G 0 0 < 12) (ha : a < 6) (hb : b < 6) (hab : a ≠ b) : WF N (nst G a b) := by
  have z0 : nst G a b 0 0 = G 0 0 + 1 := rfl
  have k3 : ∀ j, nst G a b 3 j = if j = G 0 0 then a else G 3 j := by
    intro j; simp [nst, setN_app]
  have k4 : ∀ j, nst G a b 4 j = if j = G 0 0 then b else G 4 j := by
    intro j; simp [nst, setN_app]
  refine ⟨Wf.1, ⟨by rw [z0]; omega, Wf.2.1.2⟩, Wf.2.2.1, fun j hj => ?_, fun j hj => ?_, Wf.2.2.2.2.2.1, fun j j1 j2 => ?_, fun j j1 j2 => ?_⟩
  · have w := Wf.2.2.2.1 j hj
    refine ⟨?_, ?_, w.2.2⟩
    · rw [k3]; split
      · exact ha
      · exact w.1
    · rw [k4]; split
      · exact hb
      · exact w.2.1
  · rw [z0] at hj
    rw [k3, k4]
    by_cases e : j = G 0 0
    · rw [if_pos e, if_pos e]; exact hab
    · rw [if_neg e, if_neg e]; exact Wf.2.2.2.2.1 j (by omega)
  · rw [z0] at j1
    exact Wf.2.2.2.2.2.2.1 j (by omega) j2
  · rw [z0] at j1
    exact Wf.2.2.2.2.2.2.2 j (by omega) j2
theorem cnt_lt {P Q : Nat → Bool} {i : Nat} (hPQ : ∀ j, P j = true → Q j = true) (h1 : P i = false) (h2 : Q i = true) : ∀ m, (cnt P m ≤ cnt Q m) ∧ (i < m → cnt P m < cnt Q m) := by
  intro m
  induction m with
  | zero => exact ⟨Nat.le_refl _, fun c => absurd c (Nat.not_lt_zero _)⟩
  | succ m ih =>
    rw [cnt_s, cnt_s]
    have st : (if P m = true then 1 else 0) ≤ (if Q m = true then 1 else 0) := by
      by_cases a : P m = true
      · rw [if_pos a, if_pos (hPQ m a)]; exact Nat.le_refl _
      · rw [if_neg a]; exact Nat.zero_le _
    refine ⟨by omega, fun hi => ?_⟩
    by_cases e : i = m
    · subst e
      rw [if_neg (by rw [h1]; decide), if_pos h2]
      omega
    · have := ih.2 (by omega)
      omega
theorem rank_un {G : NB} {m a b : Nat} (ha : a < m) (hb : b < m) (h : cnt (ahd G a) m = cnt (ahd G b) m) : a = b := by
  have key : ∀ x y, x < m → y < m → ahd G x y = true → cnt (ahd G y) m < cnt (ahd G x) m := by
    intro x y hx hy hxy
    refine (cnt_lt (P := ahd G y) (Q := ahd G x) (i := y) (fun j hj => ?_) ?_ hxy m).2 hy
    · simp only [ahd, Bool.or_eq_true, Bool.and_eq_true, decide_eq_true_eq] at *
      omega
    · simp [ahd]
  by_cases e : a = b
  · exact e
  · have tot : ahd G a b = true ∨ ahd G b a = true := by
      simp only [ahd, Bool.or_eq_true, Bool.and_eq_true, decide_eq_true_eq]
      omega
    rcases tot with t | t
    · have := key a b ha hb t; omega
    · have := key b a hb ha t; omega
