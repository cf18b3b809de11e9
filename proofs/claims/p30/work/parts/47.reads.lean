/-! what the reads answer, over the picture -/
def ctI (G : NB) : Nat → Int32
  | 0 => nI (G 0 3)
  | 1 => nI (G 0 0)
  | 2 => nI (cnt (fun k => decide (0 < G 6 k)) (G 0 0))
  | 3 => nI (ppl G)
  | 4 => 0 + tlO G 1 (G 0 0) + tlO G 2 (G 0 0) + tlO G 3 (G 0 0) + tlO G 4 (G 0 0) + tlO G 5 (G 0 0)
  | 5 => 0 + tlF G 1 (G 0 0) + tlF G 2 (G 0 0) + tlF G 3 (G 0 0) + tlF G 4 (G 0 0) + tlF G 5 (G 0 0)
  | 6 => nI (sm (gap G) (G 0 0))
  | 7 => nI (cnt (fun i => decide (0 < G 8 i)) 48)
  | 8 => nI (ful G 6)
  | 9 => nI (G 0 1)
  | _ => nI (G 0 2)
noncomputable def haI (G : NB) (h : Nat) : Nat → Int32
  | 0 => nI (G 1 h)
  | 1 => nI (G 2 h)
  | 2 => tlO G h (G 0 0)
  | 3 => tlF G h (G 0 0)
  | 4 => if dst G h = 1000 then -100005 else nI (dst G h)
  | _ => nI (cnt (fun k => decide (G 3 k = h) || decide (G 4 k = h)) (G 0 0))
def soV (G : NB) (k : Nat) : Nat → Int32
  | 0 => nI (G 3 k)
  | 1 => nI (G 4 k)
  | 2 => nI (G 5 k)
  | 3 => nI (G 6 k)
  | _ => nI (gap G k)
def soI (G : NB) (k w : Nat) : Int32 := if k < G 0 0 then soV G k w else -100001
def coV (G : NB) (i : Nat) : Nat → Int32
  | 0 => nI (G 7 i)
  | 1 => nI (G 8 i)
  | _ => nI (G 10 i)
def coI (G : NB) (k c w : Nat) : Int32 := if k < G 0 0 then coV G (k * 4 + c) w else -100001
theorem rd_count {N : Nat} {G : NB} {z : Nat} {H : Nat → NB} {P : Option NB} {hs : Int32} {n0 n1 : Blk} {ζ : Row} {η : Nat → Blk} (S : St N G z H P hs n0 n1 ζ η) (n2 : Blk) (δ : Row) (χ : Blk) {k : Nat} (hk : k < 11) : f_X5_count hs n0 n1 n2 ζ η δ χ (nI k) = some (ctI G k) := by
  have c := S.cl.1
  have hh : k = 0 ∨ k = 1 ∨ k = 2 ∨ k = 3 ∨ k = 4 ∨ k = 5 ∨ k = 6 ∨ k = 7 ∨ k = 8 ∨ k = 9 ∨ k = 10 := by omega
  unfold f_X5_count
  rcases hh with rfl | rfl | rfl | rfl | rfl | rfl | rfl | rfl | rfl | rfl | rfl
  · rw [if_pos (by decide), c 3 (by decide)]; rfl
  · rw [if_neg (by decide), if_pos (by decide), c 0 (by decide)]; rfl
  · rw [if_neg (by decide), if_neg (by decide), if_pos (by decide), cl_under S.cl S.wf]; rfl
  · rw [if_neg (by decide), if_neg (by decide), if_neg (by decide), if_pos (by decide), cl_ppl S.cl]; rfl
  · rw [if_neg (by decide), if_neg (by decide), if_neg (by decide), if_neg (by decide), if_pos (by decide), cl_allOwn S.cl S.wf]; rfl
  · rw [if_neg (by decide), if_neg (by decide), if_neg (by decide), if_neg (by decide), if_neg (by decide), if_pos (by decide), cl_allFar S.cl S.wf]; rfl
  · rw [if_neg (by decide), if_neg (by decide), if_neg (by decide), if_neg (by decide), if_neg (by decide), if_neg (by decide), if_pos (by decide), cl_gaps S.cl S.wf]; rfl
  · rw [if_neg (by decide), if_neg (by decide), if_neg (by decide), if_neg (by decide), if_neg (by decide), if_neg (by decide), if_neg (by decide), if_pos (by decide), cl_withSlip S.cl S.wf]; rfl
  · rw [if_neg (by decide), if_neg (by decide), if_neg (by decide), if_neg (by decide), if_neg (by decide), if_neg (by decide), if_neg (by decide), if_neg (by decide), if_pos (by decide), cl_fullest S.cl S.wf]; rfl
  · rw [if_neg (by decide), if_neg (by decide), if_neg (by decide), if_neg (by decide), if_neg (by decide), if_neg (by decide), if_neg (by decide), if_neg (by decide), if_neg (by decide), if_pos (by decide), c 1 (by decide)]; rfl
  · rw [if_neg (by decide), if_neg (by decide), if_neg (by decide), if_neg (by decide), if_neg (by decide), if_neg (by decide), if_neg (by decide), if_neg (by decide), if_neg (by decide), if_neg (by decide), if_pos (by decide), c 2 (by decide)]; rfl
theorem rd_states {N : Nat} {G : NB} {z : Nat} {H : Nat → NB} {P : Option NB} {hs : Int32} {n0 n1 : Blk} {ζ : Row} {η : Nat → Blk} (S : St N G z H P hs n0 n1 ζ η) (n2 : Blk) (δ : Row) (χ : Blk) : f_X5_count hs n0 n1 n2 ζ η δ χ (nI 11) = some (nI z) := by
  unfold f_X5_count
  rw [if_neg (by decide), if_neg (by decide), if_neg (by decide), if_neg (by decide), if_neg (by decide), if_neg (by decide), if_neg (by decide), if_neg (by decide), if_neg (by decide), if_neg (by decide), if_neg (by decide), if_pos (by decide), S.hi.2.1]
theorem nh {n : Nat} {σ : Blk} {G : NB} {N : Nat} (C : Cls σ G) (Wf : WF N G) (h : ¬ n < G 0 0) (hn : n < 2 ^ 31) : ¬ f_X4_hasStile σ (nI n) = true := by
  intro c
  obtain ⟨k, hk, e⟩ := (cl_has C Wf _).mp c
  have hm := Wf.2.1.1
  have := (nI_eq hn (by omega)).mp e
  omega
theorem rd_stileOf {N : Nat} {G : NB} {z : Nat} {H : Nat → NB} {P : Option NB} {hs : Int32} {n0 n1 : Blk} {ζ : Row} {η : Nat → Blk} (S : St N G z H P hs n0 n1 ζ η) (n2 : Blk) (δ : Row) (χ : Blk) {k w : Nat} (hk : k < 2 ^ 31) (hw : w < 5) : f_X5_stileOf hs n0 n1 n2 ζ η δ χ (nI k) (nI w) = some (soI G k w) := by
  unfold f_X5_stileOf soI
  simp only [lt]
  by_cases h : k < G 0 0
  · have hm := S.wf.2.1.1
    have c := S.cl.2.2.2.1 k (by omega)
    rw [if_pos (cl_has_t S.cl S.wf h), if_pos h]
    have hh : w = 0 ∨ w = 1 ∨ w = 2 ∨ w = 3 ∨ w = 4 := by omega
    rcases hh with rfl | rfl | rfl | rfl | rfl
    · rw [if_pos (by decide), at_k (by omega) (by decide), c.1]; rfl
    · rw [if_neg (by decide), if_pos (by decide), at_k (by omega) (by decide), c.2.1]; rfl
    · rw [if_neg (by decide), if_neg (by decide), if_pos (by decide), at_k (by omega) (by decide), c.2.2.1]; rfl
    · rw [if_neg (by decide), if_neg (by decide), if_neg (by decide), if_pos (by decide), at_k (by omega) (by decide), c.2.2.2]; rfl
    · rw [if_neg (by decide), if_neg (by decide), if_neg (by decide), if_neg (by decide), if_pos (by decide), cl_gap S.cl S.wf (by omega)]; rfl
  · rw [if_neg (nh S.cl S.wf h hk), if_neg h]
theorem rd_counter {N : Nat} {G : NB} {z : Nat} {H : Nat → NB} {P : Option NB} {hs : Int32} {n0 n1 : Blk} {ζ : Row} {η : Nat → Blk} (S : St N G z H P hs n0 n1 ζ η) (n2 : Blk) (δ : Row) (χ : Blk) {k c w : Nat} (hk : k < 2 ^ 31) (hc : c < 4) (hw : w < 3) : f_X5_counter hs n0 n1 n2 ζ η δ χ (nI k) (nI c) (nI w) = some (coI G k c w) := by
  unfold f_X5_counter coI
  simp only [lt]
  rw [in_ctr]
  by_cases h : k < G 0 0
  · have hm := S.wf.2.1.1
    have cc := S.cl.2.2.2.2 (k * 4 + c) (by omega)
    have g : inR (nI c) 0 3 = true := by
      rw [e0, e3]; exact (in_nI (by decide) (by decide)).mpr ⟨c, by omega, by omega, rfl⟩
    rw [if_pos (cl_has_t S.cl S.wf h), if_pos h, if_pos g]
    have hh : w = 0 ∨ w = 1 ∨ w = 2 := by omega
    rcases hh with rfl | rfl | rfl
    · rw [if_pos (by decide), ci_k, at_k (by omega) (by decide), cc.1]; rfl
    · rw [if_neg (by decide), if_pos (by decide), ci_k, at_k (by omega) (by decide), cc.2.1]; rfl
    · rw [if_neg (by decide), if_neg (by decide), if_pos (by decide), ci_k, at_k (by omega) (by decide), cc.2.2.2]; rfl
  · rw [if_neg (nh S.cl S.wf h hk), if_neg h]
theorem rd_hall {N : Nat} {G : NB} {z : Nat} {H : Nat → NB} {P : Option NB} {hs : Int32} {n0 n1 : Blk} {ζ : Row} {η : Nat → Blk} (S : St N G z H P hs n0 n1 ζ η) (n2 : Blk) (δ : Row) (χ : Blk) {h k : Nat} (h1 : 1 ≤ h) (h5 : h ≤ 5) (hk : k < 6) : ∃ δ', f_X5_hall hs n0 n1 n2 ζ η δ χ (nI h) (nI k) = some (haI G h k, δ') := by
  unfold f_X5_hall
  simp only [lt]
  rw [if_pos ((in_hwr _).mpr ⟨h, h1, h5, rfl⟩)]
  have c1 := S.cl.2.1 h h1 (by omega)
  have c2 := S.cl.2.2.1 h h1 (by omega)
  have hh : k = 0 ∨ k = 1 ∨ k = 2 ∨ k = 3 ∨ k = 4 ∨ k = 5 := by omega
  rcases hh with rfl | rfl | rfl | rfl | rfl | rfl
  · rw [if_pos (by decide), at_k (by omega) (by decide), c1]; exact ⟨_, rfl⟩
  · rw [if_neg (by decide), if_pos (by decide), at_k (by omega) (by decide), c2]; exact ⟨_, rfl⟩
  · rw [if_neg (by decide), if_neg (by decide), if_pos (by decide), cl_own S.cl S.wf (by omega)]; exact ⟨_, rfl⟩
  · rw [if_neg (by decide), if_neg (by decide), if_neg (by decide), if_pos (by decide), cl_far S.cl S.wf (by omega)]; exact ⟨_, rfl⟩
  · rw [if_neg (by decide), if_neg (by decide), if_neg (by decide), if_neg (by decide), if_pos (by decide)]
    obtain ⟨δ', d1, d2⟩ := cl_dist (δ := δ) S.cl S.wf
    have dl := dst_le G (h := h) (by omega)
    unfold f_X0_distanceOrNone
    rw [d1, Option.bind_some, at_k (by omega) (by decide), Option.bind_some, d2 h (by omega)]
    unfold haI
    by_cases q : dst G h = 1000
    · rw [q, if_pos rfl]
      exact ⟨_, rfl⟩
    · rw [if_neg q, if_neg (by rw [e1000]; intro c; exact q ((nI_eq (by omega) (by decide)).mp c))]
      exact ⟨_, rfl⟩
  · rw [if_neg (by decide), if_neg (by decide), if_neg (by decide), if_neg (by decide), if_neg (by decide), if_pos (by decide), cl_stilesOf S.cl S.wf (by omega)]; exact ⟨_, rfl⟩
theorem rd_most {N : Nat} {G : NB} {z : Nat} {H : Nat → NB} {P : Option NB} {hs : Int32} {n0 n1 : Blk} {ζ : Row} {η : Nat → Blk} (S : St N G z H P hs n0 n1 ζ η) (n2 : Blk) (δ : Row) (χ : Blk) {k : Nat} (hk : k < G 0 0) (ff : Bool) : f_X5_most hs n0 n1 n2 ζ η δ χ (nI k) ff = some (nI (most G k ff 99)) := by
  have hm := S.wf.2.1.1
  unfold f_X5_most
  simp only [lt]
  rw [if_pos (cl_has_t S.cl S.wf hk), cl_most S.cl S.wf (by omega)]
  rfl
theorem rd_reason {N : Nat} {G : NB} {z : Nat} {H : Nat → NB} {P : Option NB} {hs : Int32} {n0 n1 : Blk} {ζ : Row} {η : Nat → Blk} (S : St N G z H P hs n0 n1 ζ η) (n2 : Blk) (δ : Row) (χ : Blk) {k n : Nat} (hk : k < G 0 0) (ff : Bool) (h1 : 1 ≤ n) (h9 : n ≤ 99) : f_X5_reason hs n0 n1 n2 ζ η δ χ (nI k) ff (nI n) = some (nI (why G k ff n)) := by
  have hm := S.wf.2.1.1
  unfold f_X5_reason
  simp only [lt]
  have g : inR (nI n) 1 99 = true := by
    rw [e1, e99]; exact (in_nI (by decide) (by decide)).mpr ⟨n, h1, h9, rfl⟩
  rw [in_ppl, if_pos (cl_has_t S.cl S.wf hk), if_pos g, cl_why S.cl S.wf (by omega) h9]
  rfl
theorem rd_worst {N : Nat} {G : NB} {z : Nat} {H : Nat → NB} {P : Option NB} {hs : Int32} {n0 n1 : Blk} {ζ : Row} {η : Nat → Blk} (S : St N G z H P hs n0 n1 ζ η) (n2 : Blk) (δ : Row) (χ : Blk) {q : Nat} (hq : q < 2 ^ 31) : (∃ k, k < G 0 0 ∧ 0 < gap G k ∧ cnt (ahd G k) (G 0 0) = q ∧ f_X5_worst hs n0 n1 n2 ζ η δ χ (nI q) = some (nI k)) ∨ ((∀ i, i < G 0 0 → ¬ (0 < gap G i ∧ cnt (ahd G i) (G 0 0) = q)) ∧ f_X5_worst hs n0 n1 n2 ζ η δ χ (nI q) = some (-100005)) := by
  have hm := S.wf.2.1.1
  have nn := S.wf.1
  have c0 := S.cl.1 0 (by decide)
  unfold f_X5_worst
  rw [if_pos (nI_pos' hq)]
  have A : ∀ (d j n : Nat), j + d = G 0 0 → d < n → (∀ i, i < j → ¬ (0 < gap G i ∧ cnt (ahd G i) (G 0 0) = q)) → ∃ r, f_X5_worst_L9 hs n0 n1 n2 ζ η δ χ (nI q) n (nI j) = some r ∧ ((∃ k, k < G 0 0 ∧ (0 < gap G k ∧ cnt (ahd G k) (G 0 0) = q) ∧ r = nI k) ∨ ((∀ i, i < G 0 0 → ¬ (0 < gap G i ∧ cnt (ahd G i) (G 0 0) = q)) ∧ r = -100005)) := by
    intro d
    induction d with
    | zero =>
      intro j n hj hn hP
      obtain ⟨n, rfl⟩ : ∃ m, n = m + 1 := ⟨n - 1, by omega⟩
      have e : j = G 0 0 := by omega
      refine ⟨-100005, by rw [f_X5_worst_L9, c0, if_pos (nI_le (by omega) (by omega))], .inr ⟨fun i hi => hP i (by omega), rfl⟩⟩
    | succ d ih =>
      intro j n hj hn hP
      obtain ⟨n, rfl⟩ : ∃ m, n = m + 1 := ⟨n - 1, by omega⟩
      have gj := gap_le S.wf (k := j) (by omega)
      have cl := cnt_le (ahd G j) (G 0 0)
      rw [f_X5_worst_L9, c0, if_neg (nI_ge (by omega) (by omega)), cl_gap S.cl S.wf (by omega), Option.bind_some]
      by_cases g : 0 < gap G j
      · rw [if_neg (show ¬ nI (gap G j) ≤ 0 by rw [e0]; exact nI_ge g (by omega)), cl_worse S.cl S.wf (by omega), Option.bind_some]
        by_cases w : cnt (ahd G j) (G 0 0) = q
        · rw [if_pos (by rw [w])]
          exact ⟨_, rfl, .inl ⟨j, by omega, ⟨g, w⟩, rfl⟩⟩
        · rw [if_neg (fun c => w ((nI_eq (by omega) hq).mp c)), nI_1]
          exact ih (j + 1) n (by omega) (by omega) (fun i hi => by
            by_cases e : i = j
            · subst e; exact fun c => w c.2
            · exact hP i (by omega))
      · rw [if_pos (show nI (gap G j) ≤ 0 by rw [e0]; exact nI_le (by omega) (by omega)), nI_1]
        exact ih (j + 1) n (by omega) (by omega) (fun i hi => by
          by_cases e : i = j
          · subst e; exact fun c => g c.1
          · exact hP i (by omega))
  obtain ⟨r, a1, a2⟩ := A (G 0 0) 0 FU (by omega) (FU_big (by omega)) (fun i hi => absurd hi (Nat.not_lt_zero _))
  rw [← e0] at a1
  rcases a2 with ⟨k, k1, k2, k3⟩ | ⟨h1, h2⟩
  · exact .inl ⟨k, k1, k2.1, k2.2, by rw [a1, k3]⟩
  · exact .inr ⟨h1, by rw [a1, h2]⟩
theorem rd_worstN {N : Nat} {G : NB} {z : Nat} {H : Nat → NB} {P : Option NB} {hs : Int32} {n0 n1 : Blk} {ζ : Row} {η : Nat → Blk} (S : St N G z H P hs n0 n1 ζ η) (n2 : Blk) (δ : Row) (χ : Blk) : f_X5_worst hs n0 n1 n2 ζ η δ χ (-1) = some (-100002) := by
  unfold f_X5_worst
  rw [if_neg (by decide)]
/-- the law's digest -/
def n1I (G : NB) : Nat → Int32
  | 0 => nI 11
  | k + 1 => nI 31 * n1I G k + ctI G k
noncomputable def n2I (G : NB) (h : Nat) (a : Int32) : Nat → Int32
  | 0 => a
  | k + 1 => nI 31 * n2I G h a k + haI G h k
noncomputable def n2O (G : NB) (a : Int32) : Nat → Int32
  | 0 => a
  | j + 1 => n2I G (j + 1) (n2O G a j) 6
def n3I (G : NB) (k : Nat) (a : Int32) : Nat → Int32
  | 0 => a
  | c + 1 => nI 31 * n3I G k a c + coI G k c 0 + nI 7 * coI G k c 1 + nI 13 * coI G k c 2
def n3O (G : NB) (a : Int32) : Nat → Int32
  | 0 => a
  | k + 1 => nI 31 * n3I G k (n3O G a k) 4 + soI G k 2 + nI 5 * soI G k 3
noncomputable def NUM (G : NB) : Int32 := n3O G (n2O G (n1I G 11) 5) 12
theorem rd_emptyIn {N : Nat} {G : NB} {z : Nat} {H : Nat → NB} {P : Option NB} {hs : Int32} {n0 n1 : Blk} {ζ : Row} {η : Nat → Blk} (S : St N G z H P hs n0 n1 ζ η) (n2 : Blk) (δ : Row) (χ : Blk) (hp : ppl G = 0) : ∃ n2' δ', f_X5_emptyIn hs n0 n1 n2 ζ η δ χ = some (0, n2', δ') := by
  obtain ⟨σ', c1, c2⟩ := cl_copy (σ := n2) S.cl
  obtain ⟨n, hn⟩ := FU_s 1 (by decide)
  unfold f_X5_emptyIn
  rw [c1, Option.bind_some, hn, f_X5_emptyIn_L13, if_neg (by decide), cl_ppl c2, hp, Option.bind_some, if_pos (by decide)]
  exact ⟨_, _, rfl⟩
theorem rms_in {N : Nat} {G : NB} (Wf : WF N G) : 0 < rms G ∧ rms G < 4096 ∧ ppl G ≤ rms G := by
  have w1 := Wf.2.2.1 1 (by decide) (by decide)
  have w2 := Wf.2.2.1 2 (by decide) (by decide)
  have w3 := Wf.2.2.1 3 (by decide) (by decide)
  have w4 := Wf.2.2.1 4 (by decide) (by decide)
  have w5 := Wf.2.2.1 5 (by decide) (by decide)
  unfold rms ppl
  omega
