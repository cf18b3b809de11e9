/-! class and reference side by side: run -/
/-- the class's reading, at p -/
def Rc (T : Nat → Nat) (t : Nat) (χ : Blk) (p : Nat) : Prop := t ≤ 60 ∧ χ 0 0 = nI t ∧ χ 0 1 = nI p ∧ ∀ i, i < t → 32 ≤ T i ∧ T i ≤ 126 ∧ χ 1 i = nI (T i)
def Kc (χ χ' : Blk) : Prop := χ' 0 0 = χ 0 0 ∧ χ' 1 = χ 1
theorem Kc.tr {a b c : Blk} (h1 : Kc a b) (h2 : Kc b c) : Kc a c := ⟨h2.1.trans h1.1, h2.2.trans h1.2⟩
theorem Kc.up {a b : Blk} (h : Kc a b) {j : Nat} {v : Int32} (hj : 1 ≤ j) : Kc a (up b 0 j v) := by
  refine h.tr ⟨?_, ?_⟩
  · rw [up_app, if_neg (by omega)]
  · funext i; rw [up_app, if_neg (by simp)]
theorem Rc.at {T : Nat → Nat} {t : Nat} {χ : Blk} {p q : Nat} (R : Rc T t χ p) : Rc T t (up χ 0 1 (nI q)) q := by
  refine ⟨R.1, ?_, ?_, fun i hi => ?_⟩
  · rw [up_app, if_neg (by decide)]; exact R.2.1
  · rw [up_app, if_pos ⟨rfl, rfl⟩]
  · rw [up_app, if_neg (by simp)]; exact R.2.2.2 i hi
theorem Rc.hi {T : Nat → Nat} {t : Nat} {χ : Blk} {p j : Nat} {v : Int32} (R : Rc T t χ p) (hj : 2 ≤ j) : Rc T t (up χ 0 j v) p := by
  refine ⟨R.1, ?_, ?_, fun i hi => ?_⟩
  · rw [up_app, if_neg (by omega)]; exact R.2.1
  · rw [up_app, if_neg (by omega)]; exact R.2.2.1
  · rw [up_app, if_neg (by simp)]; exact R.2.2.2 i hi
def chA (t : Nat) (T : Nat → Nat) (p : Nat) : Nat := if p < t then T p else 0
theorem cl_next {T : Nat → Nat} {t : Nat} {χ : Blk} {p : Nat} (R : Rc T t χ p) (hp : p ≤ 100) : f_X3_nextCharacter χ = some (nI (chA t T p)) := by
  have t60 := R.1
  unfold f_X3_nextCharacter chA
  rw [R.2.1, R.2.2.1]
  by_cases q : p < t
  · rw [if_neg (nI_ge q (by omega)), at_k (by omega) (by decide), (R.2.2.2 p q).2.2, if_pos q]; rfl
  · rw [if_pos (nI_le (by omega) (by omega)), if_neg q, ← e0]
theorem cl_readC {T : Nat → Nat} {t : Nat} {χ : Blk} {p : Nat} (R : Rc T t χ p) (hp : p ≤ 100) : f_X3_readCharacter χ = some (nI (chA t T p), up χ 0 1 (nI (p + 1))) := by
  unfold f_X3_readCharacter
  rw [cl_next R hp, Option.bind_some]
  simp only [lt]
  rw [R.2.2.1, nI_1]
theorem cl_dig {T : Nat → Nat} {t : Nat} {χ : Blk} {p : Nat} (R : Rc T t χ p) : f_X3_isDigit (nI (chA t T p)) = isc t T 48 57 p := by
  unfold chA isc
  by_cases q : p < t
  · rw [if_pos q, dig_c (R.2.2.2 p q).2.1]
    apply b_ext
    rw [decide_eq_true_eq, decide_eq_true_eq]
    exact ⟨fun k => ⟨q, k⟩, fun k => k.2⟩
  · rw [if_neg q, dig_c (by decide)]
    apply b_ext
    rw [decide_eq_true_eq, decide_eq_true_eq]
    exact ⟨fun k => absurd k.1 (by decide), fun k => absurd k.1 q⟩
/-- the class reads a number -/
theorem cl_number {T : Nat → Nat} {t : Nat} {χ : Blk} {p : Nat} (R : Rc T t χ p) (hp : p ≤ 90) (h : (nmE t T p).1 = false) : ∃ χ', f_X3_readNumber χ = some (nI (nmV t T p), χ') ∧ Kc χ χ' ∧ Rc T t χ' (nmE t T p).2 ∧ χ' 0 2 = χ 0 2 ∧ χ' 0 3 = χ 0 3 := by
  obtain ⟨n, hn⟩ := FU_s 3 (by decide)
  unfold f_X3_readNumber
  unfold nmE at h ⊢
  unfold nmV
  cases q : isc t T 49 57 p
  · rw [q, if_neg ff_ne] at h; cases h
  · obtain ⟨q1, q2⟩ := isc_lt q
    have d1 : isc t T 48 57 p = true := decide_eq_true ⟨q1, by omega⟩
    have ch : chA t T p = T p := if_pos q1
    rw [if_pos rfl, if_pos rfl, hn, show n + 3 = (n + 2) + 1 from rfl, f_X3_readNumber_L4, if_neg (by decide), cl_next R (by omega), Option.bind_some]
    simp only [lt]
    rw [cl_dig R, d1, if_pos rfl, cl_readC R (by omega), Option.bind_some]
    simp only []
    rw [ch, n48, show (10 : Int32) * 0 = nI 0 by decide, nI_add, nI_sub (by omega), Nat.zero_add, show (0 : Int32) + 1 = 1 by decide]
    have R1 : Rc T t (up χ 0 1 (nI (p + 1))) (p + 1) := R.at
    have K1 : Kc χ (up χ 0 1 (nI (p + 1))) := Kc.up ⟨rfl, rfl⟩ (by decide)
    have s2 : up χ 0 1 (nI (p + 1)) 0 2 = χ 0 2 := by rw [up_app, if_neg (by decide)]
    have s3 : up χ 0 1 (nI (p + 1)) 0 3 = χ 0 3 := by rw [up_app, if_neg (by decide)]
    generalize up χ 0 1 (nI (p + 1)) = χ1 at R1 K1 s2 s3 ⊢
    rw [show n + 2 = (n + 1) + 1 from rfl, f_X3_readNumber_L4, if_neg (by decide), cl_next R1 (by omega), Option.bind_some]
    simp only [lt]
    rw [cl_dig R1]
    cases g : isc t T 48 57 (p + 1)
    · rw [if_neg ff_ne, if_neg ff_ne, if_neg ff_ne]
      exact ⟨_, rfl, K1, R1, s2, s3⟩
    · obtain ⟨g1, g2⟩ := isc_lt g
      have ch1 : chA t T (p + 1) = T (p + 1) := if_pos g1
      rw [if_pos rfl, if_pos rfl, if_pos rfl, cl_readC R1 (by omega), Option.bind_some]
      simp only []
      rw [ch1, e10, nI_mul, nI_add, n48, nI_sub (by omega), show (1 : Int32) + 1 = 2 by decide, f_X3_readNumber_L4, if_pos (by decide)]
      refine ⟨_, rfl, K1.up (by decide), R1.at, ?_, ?_⟩
      · rw [up_app, if_neg (by decide), s2]
      · rw [up_app, if_neg (by decide), s3]
theorem cl_number0 {T : Nat → Nat} {t : Nat} {χ : Blk} {p : Nat} (R : Rc T t χ p) (hp : p ≤ 90) (h : isc t T 48 57 p = false) : f_X3_readNumber χ = some (0, χ) := by
  obtain ⟨n, hn⟩ := FU_s 3 (by decide)
  unfold f_X3_readNumber
  rw [hn, show n + 3 = (n + 2) + 1 from rfl, f_X3_readNumber_L4, if_neg (by decide), cl_next R (by omega), Option.bind_some]
  simp only [lt]
  rw [cl_dig R, h, if_neg ff_ne]
/-- the class reads an order -/
theorem cl_order {T : Nat → Nat} {t : Nat} {χ : Blk} {p : Nat} (R : Rc T t χ p) (hp : p < t) (w : (orE t T p).1 = false) (hE : (orE t T p).2 = t ∨ T (orE t T p).2 = 44) : ∃ χ', f_X3_readOrder χ = some (true, χ') ∧ Kc χ χ' ∧ Rc T t χ' ((orE t T p).2 + 1) ∧ ((isc t T 104 104 p = true ∧ χ' 0 3 = 104 ∧ χ' 0 4 = nI (nmV t T (p + 1))) ∨ (isc t T 104 104 p = false ∧ χ' 0 2 = nI (T p - 65) ∧ χ' 0 3 = nI (T (p + 1)) ∧ (((isc t T 62 62 (p + 1) = true ∨ isc t T 60 60 (p + 1) = true) ∧ χ' 0 4 = nI (nmV t T (p + 2))) ∨ isc t T 97 97 (p + 1) = true ∨ isc t T 114 114 (p + 1) = true))) := by
  have t60 := R.1
  have cp := R.2.2.2 p hp
  have ch : chA t T p = T p := if_pos hp
  unfold f_X3_readOrder
  rw [R.2.1, R.2.2.1, if_pos (nI_lt hp (by omega)), cl_readC R (by omega), Option.bind_some, ch]
  simp only [lt]
  have R1 : Rc T t (up (up χ 0 1 (nI (p + 1))) 0 3 (nI (T p))) (p + 1) := R.at.hi (by decide)
  have K1 : Kc χ (up (up χ 0 1 (nI (p + 1))) 0 3 (nI (T p))) := (Kc.up ⟨rfl, rfl⟩ (by decide)).up (by decide)
  have s3 : up (up χ 0 1 (nI (p + 1))) 0 3 (nI (T p)) 0 3 = nI (T p) := by rw [up_app, if_pos ⟨rfl, rfl⟩]
  generalize up (up χ 0 1 (nI (p + 1))) 0 3 (nI (T p)) = χ1 at R1 K1 s3 ⊢
  rw [s3, let_c cp.2.1]
  unfold orE at w hE ⊢
  cases q : isc t T 104 104 p
  · rw [q, if_neg ff_ne] at w hE
    rw [if_neg ff_ne]
    cases g : isc t T 65 76 p
    · rw [g, if_neg ff_ne] at w; cases w
    · obtain ⟨g1, g2, g3⟩ := isc_lt g
      rw [g, if_pos rfl] at w hE
      rw [if_pos rfl, decide_eq_true ⟨g2, g3⟩, if_pos rfl, n65, nI_sub g2]
      have R2 : Rc T t (up χ1 0 2 (nI (T p - 65))) (p + 1) := R1.hi (by decide)
      have K2 : Kc χ (up χ1 0 2 (nI (T p - 65))) := K1.up (by decide)
      have s2 : up χ1 0 2 (nI (T p - 65)) 0 2 = nI (T p - 65) := by rw [up_app, if_pos ⟨rfl, rfl⟩]
      generalize up χ1 0 2 (nI (T p - 65)) = χ2 at R2 K2 s2 ⊢
      rw [cl_readC R2 (by omega), Option.bind_some]
      simp only []
      have R3 : Rc T t (up (up χ2 0 1 (nI (p + 1 + 1))) 0 3 (nI (chA t T (p + 1)))) (p + 1 + 1) := R2.at.hi (by decide)
      have K3 : Kc χ (up (up χ2 0 1 (nI (p + 1 + 1))) 0 3 (nI (chA t T (p + 1)))) := (K2.up (by decide)).up (by decide)
      have y2 : up (up χ2 0 1 (nI (p + 1 + 1))) 0 3 (nI (chA t T (p + 1))) 0 2 = nI (T p - 65) := by rw [up_app, if_neg (by decide), up_app, if_neg (by decide), s2]
      have y3 : up (up χ2 0 1 (nI (p + 1 + 1))) 0 3 (nI (chA t T (p + 1))) 0 3 = nI (chA t T (p + 1)) := by rw [up_app, if_pos ⟨rfl, rfl⟩]
      generalize up (up χ2 0 1 (nI (p + 1 + 1))) 0 3 (nI (chA t T (p + 1))) = χ3 at R3 K3 y2 y3 ⊢
      by_cases v : isc t T 62 62 (p + 1) = true ∨ isc t T 60 60 (p + 1) = true
      · rw [if_pos v] at w hE
        rw [if_pos v]
        have h1 : p + 1 < t := by rcases v with v | v <;> exact (isc_lt v).1
        have ch1 : chA t T (p + 1) = T (p + 1) := if_pos h1
        obtain ⟨χ', n1, n2, n3, n4, n5⟩ := cl_number R3 (by omega) w
        rw [n1, Option.bind_some]
        simp only []
        have R4 : Rc T t (up χ' 0 4 (nI (nmV t T (p + 1 + 1)))) (nmE t T (p + 1 + 1)).2 := n3.hi (by decide)
        rw [R4.2.2.1, nI_1]
        refine ⟨_, rfl, ((K3.tr n2).up (by decide)).up (by decide), R4.at, .inr ⟨trivial, ?_, ?_, .inl ⟨v, ?_⟩⟩⟩
        · rw [up_app, if_neg (by decide), up_app, if_neg (by decide), n4, y2]
        · rw [up_app, if_neg (by decide), up_app, if_neg (by decide), n5, y3, ch1]
        · rw [up_app, if_neg (by decide), up_app, if_pos ⟨rfl, rfl⟩]
      · rw [if_neg v] at w hE
        rw [if_neg v]
        by_cases u : isc t T 97 97 (p + 1) = true ∨ isc t T 114 114 (p + 1) = true
        · rw [if_pos u] at hE
          rw [if_pos u]
          have h1 : p + 1 < t := by rcases u with u | u <;> exact (isc_lt u).1
          have ch1 : chA t T (p + 1) = T (p + 1) := if_pos h1
          have nd : isc t T 48 57 (p + 1 + 1) = false := decide_eq_false (fun c => by
            have hE' : p + 2 = t ∨ T (p + 2) = 44 := hE
            rcases hE' with k | k
            · have := c.1; omega
            · have := c.2.1
              have e : p + 1 + 1 = p + 2 := rfl
              rw [e] at this; omega)
          rw [cl_number0 R3 (by omega) nd, Option.bind_some]
          simp only []
          have R4 : Rc T t (up χ3 0 4 0) (p + 1 + 1) := R3.hi (by decide)
          rw [R4.2.2.1, nI_1]
          refine ⟨_, rfl, (K3.up (by decide)).up (by decide), R4.at, .inr ⟨trivial, ?_, ?_, .inr u⟩⟩
          · rw [up_app, if_neg (by decide), up_app, if_neg (by decide), y2]
          · rw [up_app, if_neg (by decide), up_app, if_neg (by decide), y3, ch1]
        · rw [if_neg u] at w; cases w
  · obtain ⟨q1, q2, q3⟩ := isc_lt q
    rw [q, if_pos rfl] at w hE
    rw [if_pos rfl, decide_eq_false (by omega), if_neg ff_ne]
    obtain ⟨χ', n1, n2, n3, n4, n5⟩ := cl_number R1 (by omega) w
    rw [n1, Option.bind_some]
    simp only []
    have R4 : Rc T t (up χ' 0 4 (nI (nmV t T (p + 1)))) (nmE t T (p + 1)).2 := n3.hi (by decide)
    rw [R4.2.2.1, nI_1]
    refine ⟨_, rfl, ((K1.tr n2).up (by decide)).up (by decide), R4.at, .inl ⟨trivial, ?_, ?_⟩⟩
    · rw [up_app, if_neg (by decide), up_app, if_neg (by decide), n5, s3, n104]
      congr 1; omega
    · rw [up_app, if_neg (by decide), up_app, if_pos ⟨rfl, rfl⟩]
theorem nmV_le {t : Nat} {T : Nat → Nat} {p : Nat} (h : (nmE t T p).1 = false) : 1 ≤ nmV t T p ∧ nmV t T p ≤ 99 := by
  unfold nmE at h
  unfold nmV
  cases q : isc t T 49 57 p
  · rw [q, if_neg ff_ne] at h; cases h
  · have q2 := (isc_lt q).2
    rw [if_pos rfl]
    cases g : isc t T 48 57 (p + 1)
    · rw [if_neg ff_ne]; omega
    · have g2 := (isc_lt g).2
      rw [if_pos rfl]; omega
/-- one order, carried out by both -/
theorem both_pass {hs : Int32} {n0 n1 n2 : Blk} {ζ : Row} {η : Nat → Blk} {δ : Row} {χ μ : Blk} {G : NB} {N k v : Nat} (C : Cls n0 G) (M : Mod (μ 1) 0 G) (Wf : WF N G) (hN : N + 600000 ≤ 536870912) (ff : Bool) (c2 : χ 0 2 = nI k) (hk : k < 12) (c4 : χ 0 4 = nI v) (m6 : μ 0 6 = nI k) (m7 : μ 0 7 = nI v) (hv : 1 ≤ v ∧ v ≤ 99) :
    ∃ b n0' μ' G', f_X5_carryOutPass hs n0 n1 n2 ζ η δ χ ff = some (b, n0') ∧ (f_X6_isStile μ (nI k) = true → ((f_X6_why μ 0 (μ 0 6) ff (μ 0 7)).bind fun q143 => (if q143 = 0 then (f_X6_passes μ 0 (μ 0 6) ff (μ 0 7)).bind fun q183 => some (true, q183) else some (false, μ))) = some (b, μ')) ∧ (f_X6_isStile μ (nI k) = false → b = false ∧ μ' = μ) ∧ Cls n0' G' ∧ Mod (μ' 1) 0 G' ∧ WF (N + 200) G' ∧ Same 0 μ μ' := by
  unfold f_X5_carryOutPass f_X5_passError
  rw [c2, c4, m6, m7]
  simp only [lt]
  rw [st_eq C M Wf, in_ppl]
  have g : f_X6_in (nI v) 1 99 = true := (in_nI (a := 1) (b := 99) (by decide) (by decide)).mpr ⟨v, hv.1, hv.2, rfl⟩
  cases h : f_X6_isStile μ (nI k)
  · rw [if_neg ff_ne, Option.bind_some, if_neg (by decide)]
    exact ⟨false, n0, μ, G, rfl, fun c => (by cases c), fun _ => ⟨rfl, rfl⟩, C, M, wf_mono Wf (by omega) (by omega), Same.rf⟩
  · obtain ⟨k', hk', e⟩ := (mo_stile M Wf _).mp h
    have hm := Wf.2.1.1
    have ek : k = k' := (nI_eq (by omega) (by omega)).mp e
    subst ek
    have w := mo_why M Wf (by decide) hk' hk hv.2 ff
    rw [← e0] at w
    rw [if_pos rfl, if_pos g, cl_why C Wf hk hv.2, w, Option.bind_some, Option.bind_some]
    by_cases y : why G k ff v = 0
    · obtain ⟨σ', c1, c2'⟩ := cl_pas C Wf (by omega) hk' hv.2 (can_why y)
      obtain ⟨μ', m1, m2, m3⟩ := mo_passes M Wf (by omega) (by decide) hk' hv.2 (can_why y)
      rw [← e0] at m1
      rw [y, if_pos (show nI 0 = 0 by decide), if_pos (show nI 0 = 0 by decide), Option.bind_some, if_pos rfl, c1, m1]
      exact ⟨true, σ', μ', _, rfl, fun _ => rfl, fun c => (by cases c), c2', m2, wf_pas Wf hk' (can_why y) (by omega) (by omega), m3⟩
    · have w4 : why G k ff v ≤ 4 := by
        unfold why
        split
        · omega
        · split
          · omega
          · split
            · omega
            · split <;> omega
      have ny : ¬ nI (why G k ff v) = 0 := by
        rw [e0]; intro c; exact y ((nI_eq (by omega) (by decide)).mp c)
      have nz : ¬ (-10 : Int32) - nI (why G k ff v) = 0 := by
        have : why G k ff v = 1 ∨ why G k ff v = 2 ∨ why G k ff v = 3 ∨ why G k ff v = 4 := by omega
        rcases this with r | r | r | r <;> rw [r] <;> decide
      rw [if_neg ny, if_neg ny, Option.bind_some, if_neg nz]
      exact ⟨false, n0, μ, G, rfl, fun _ => rfl, fun c => (by cases c), C, M, wf_mono Wf (by omega) (by omega), Same.rf⟩
theorem both_order {hs : Int32} {n0 n1 n2 : Blk} {ζ : Row} {η : Nat → Blk} {δ : Row} {χ μ : Blk} {G : NB} {N k l v : Nat} (C : Cls n0 G) (M : Mod (μ 1) 0 G) (Wf : WF N G) (hN : N + 600000 ≤ 536870912) (hO : (χ 0 3 = 104 ∧ μ 0 5 = 104 ∧ χ 0 4 = nI v ∧ μ 0 7 = nI v ∧ 1 ≤ v ∧ v ≤ 99) ∨ (χ 0 2 = nI k ∧ μ 0 6 = nI k ∧ k < 12 ∧ χ 0 3 = nI l ∧ μ 0 5 = nI l ∧ (((l = 62 ∨ l = 60) ∧ χ 0 4 = nI v ∧ μ 0 7 = nI v ∧ 1 ≤ v ∧ v ≤ 99) ∨ l = 97 ∨ l = 114))) :
    ∃ b n0' μ' G', f_X5_carryOutOrder hs n0 n1 n2 ζ η δ χ = some (b, n0') ∧ f_X6_does μ = some (b, μ') ∧ Cls n0' G' ∧ Mod (μ' 1) 0 G' ∧ WF (N + 200) G' ∧ Same 0 μ μ' := by
  unfold f_X5_carryOutOrder f_X6_does
  simp only [lt]
  rcases hO with ⟨c3, m5, c4, m7, v1, v9⟩ | ⟨c2, m6, hk, c3, m5, hO⟩
  · rw [c3, m5, if_neg (by decide), if_neg (by decide), if_neg (by decide), if_neg (by decide), if_pos rfl, c4, m7]
    obtain ⟨σ', μ', G', acc', g1, g2, g3, g4, g5, g6⟩ := both_hours (N := N) v9 (by omega) v 0 FU FU n0 μ G 0 (by omega) (FU_big (by omega)) (FU_big (by omega)) Wf C M
    rw [← e0] at g1 g2
    unfold f_X4_letHoursPass f_X6_hoursPass
    rw [g1, g2]
    exact ⟨true, σ', μ', G', rfl, rfl, g3, g4, wf_mono g5 (by omega) (by omega), g6⟩
  · rcases hO with ⟨hl, c4, m7, v1, v9⟩ | hl | hl
    · rcases hl with rfl | rfl
      · obtain ⟨b, n0', μ', G', a1, a2, a3, a4, a5, a6, a7⟩ := both_pass (hs := hs) (n1 := n1) (n2 := n2) (ζ := ζ) (η := η) (δ := δ) C M Wf hN true c2 hk c4 m6 m7 ⟨v1, v9⟩
        rw [c3, m5, if_neg (by decide), if_pos (by decide), if_neg (by decide), a1, Option.bind_some, m6]
        rw [m6] at a2
        cases h : f_X6_isStile μ (nI k)
        · obtain ⟨r1, r2⟩ := a3 h
          subst r1; subst r2
          rw [if_neg ff_ne]
          exact ⟨_, _, _, _, rfl, rfl, a4, a5, a6, a7⟩
        · rw [if_pos rfl, if_neg (by decide), if_neg (by decide), if_pos (by decide)]
          have a2' := a2 h
          refine ⟨_, _, _, _, rfl, ?_, a4, a5, a6, a7⟩
          rw [← a2']
          rfl
      · obtain ⟨b, n0', μ', G', a1, a2, a3, a4, a5, a6, a7⟩ := both_pass (hs := hs) (n1 := n1) (n2 := n2) (ζ := ζ) (η := η) (δ := δ) C M Wf hN false c2 hk c4 m6 m7 ⟨v1, v9⟩
        rw [c3, m5, if_pos (by decide), if_neg (by decide), a1, Option.bind_some, m6]
        rw [m6] at a2
        cases h : f_X6_isStile μ (nI k)
        · obtain ⟨r1, r2⟩ := a3 h
          subst r1; subst r2
          rw [if_neg ff_ne]
          exact ⟨_, _, _, _, rfl, rfl, a4, a5, a6, a7⟩
        · rw [if_pos rfl, if_neg (by decide), if_neg (by decide), if_neg (by decide)]
          have a2' := a2 h
          refine ⟨_, _, _, _, rfl, ?_, a4, a5, a6, a7⟩
          rw [← a2']
          rfl
    · subst hl
      unfold f_X5_carryOutAudit
      simp only [lt]
      rw [c3, m5, c2, m6, st_eq C M Wf, if_neg (show ¬ nI 97 = 60 by decide), if_neg (show ¬ nI 97 = 62 by decide), if_pos (show nI 97 = 97 by decide), if_neg (show ¬ nI 97 = 104 by decide)]
      cases h : f_X6_isStile μ (nI k)
      · rw [if_neg ff_ne, if_neg ff_ne]
        exact ⟨_, _, _, _, rfl, rfl, C, M, wf_mono Wf (by omega) (by omega), Same.rf⟩
      · obtain ⟨k', hk', e⟩ := (mo_stile M Wf _).mp h
        have hm := Wf.2.1.1
        have ek : k = k' := (nI_eq (by omega) (by omega)).mp e
        subst ek
        obtain ⟨σ', d1, d2⟩ := cl_agr C Wf hk'
        obtain ⟨μ', f1, f2, f3⟩ := mo_agr M Wf hk'
        rw [if_pos rfl, if_pos rfl, if_pos (show nI 97 = 97 by decide), d1, f1]
        exact ⟨_, _, _, _, rfl, rfl, d2, f2, wf_mono (wf_agr Wf hk') (by omega) (by omega), f3⟩
    · subst hl
      unfold f_X5_carryOutRepair f_X5_repairError
      simp only [lt]
      rw [c3, m5, c2, m6, st_eq C M Wf, if_neg (show ¬ nI 114 = 60 by decide), if_neg (show ¬ nI 114 = 62 by decide), if_neg (show ¬ nI 114 = 97 by decide), if_pos (show nI 114 = 114 by decide), if_neg (show ¬ nI 114 = 104 by decide)]
      cases h : f_X6_isStile μ (nI k)
      · rw [if_neg ff_ne, if_neg ff_ne, Option.bind_some, if_neg (by decide)]
        exact ⟨_, _, _, _, rfl, rfl, C, M, wf_mono Wf (by omega) (by omega), Same.rf⟩
      · obtain ⟨k', hk', e⟩ := (mo_stile M Wf _).mp h
        have hm := Wf.2.1.1
        have ek : k = k' := (nI_eq (by omega) (by omega)).mp e
        subst ek
        have w := (Wf.2.2.2.1 k hk).2.2.2
        have cc := (C.2.2.2.1 k hk).2.2.2
        have mm := (M.2.2.1 k hk').2.2.2
        have m1 : μ 1 1 = nI (G 0 2) := by simpa using M.1.2.1
        have w2 := Wf.2.1
        rw [if_pos rfl, if_pos rfl, if_neg (show ¬ nI 114 = 97 by decide), if_pos (show nI 114 = 114 by decide), at_k hk (by decide), Option.bind_some, cc]
        simp only [place0, e3, nI_add]
        rw [ib_nI (by omega) (by decide), if_pos rfl, nI_clamp (by omega), mm, m1]
        by_cases y : G 6 k = 0
        · unfold f_X4_beginRepair
          rw [y, if_pos (show nI 0 ≤ 0 by decide), if_pos (show nI 0 = 0 by decide), Option.bind_some, if_pos rfl, put_k hk (by decide), Option.bind_some]
          simp only [lt]
          rw [if_pos trivial, if_pos trivial, nI_add, show 0 + G 0 2 = G 0 2 from Nat.zero_add _, C.1 2 (by decide)]
          exact ⟨_, _, _, _, rfl, rfl, cl_set C (by decide), mo_w (mo_own_up M (j := 3) hk (by decide) _), wf_mono (wf_set6 Wf hk' w2.2.2.2.2.1) (by omega) (by omega), Same.up (by omega) (by omega)⟩
        · have n1' : ¬ nI (G 6 k) ≤ 0 := by rw [e0]; exact nI_ge (by omega) (by omega)
          have n2' : ¬ nI (G 6 k) = 0 := by
            rw [e0]; intro c; exact y ((nI_eq (by omega) (by decide)).mp c)
          rw [if_neg n1', if_neg n2', Option.bind_some, if_neg (by decide)]
          simp only [if_true]
          rw [nI_zz]
          have up := mo_own_up M (j := 3) hk (by decide) (G 6 k)
          refine ⟨_, _, _, _, rfl, rfl, C, (mo_w up).cong (G' := G) (fun p j => ?_), wf_mono Wf (by omega) (by omega), Same.up (by omega) (by omega)⟩
          rw [setN_app]
          split
          · rename_i c; rw [c.1, c.2]
          · rfl

theorem lt_app {α β : Type} (v : α) (f : α → β) : lt v f = f v := rfl
theorem FU_big2 {d : Nat} (h : d < 2 ^ 31) : d < FU := FU_big h
/-- run's orders, one by one, in both -/
theorem both_run {hs : Int32} {n1 n2 : Blk} {ζ : Row} {η : Nat → Blk} {δ : Row} {T : Nat → Nat} {t N : Nat} (hN : N + 700000 ≤ 536870912) : ∀ (d p n m c q : Nat) (σ χ μ : Blk) (G : NB), t - p ≤ d → vld t T q p → 3 * c ≤ p → d + 2 < n → d + 1 < m → WF (N + 200 * c) G → Cls σ G → Mod (μ 1) 0 G → Rc T t χ p → Rd T t μ p 0 →
    ∃ r σ' χ' μ' G', f_X5_run_L39 hs n1 n2 ζ η δ n σ χ (nI c) = some (r, σ', ζ, η, χ') ∧ f_X6_run_L29 m μ (nI c) 1 = some (r, μ') ∧ Cls σ' G' ∧ Mod (μ' 1) 0 G' ∧ WF (N + 200 * 61) G' ∧ Kc χ χ' ∧ (∀ j, j < 3 → μ' 0 j = μ 0 j) ∧ μ' 2 = μ 2 ∧ ∀ j, 256 ≤ j → μ' 1 j = μ 1 j := by
  intro d
  induction d with
  | zero =>
    intro p n m c q σ χ μ G hd hv hc hn hm W C M RC RD
    cases q with
    | zero => exact absurd hv id
    | succ q =>
      have v2 := hv.2.1
      have v3 := hv.2.2
      exfalso
      rcases v3 with v3 | v3
      · omega
      · omega
  | succ d ih =>
    intro p n m c q σ χ μ G hd hv hc hn hm W C M RC RD
    cases q with
    | zero => exact absurd hv id
    | succ q =>
      obtain ⟨n, rfl⟩ : ∃ r, n = r + 2 := ⟨n - 2, by omega⟩
      obtain ⟨m, rfl⟩ : ∃ r, m = r + 2 := ⟨m - 2, by omega⟩
      have t60 := RC.1
      obtain ⟨v1, v2, v3⟩ := hv
      have hE : (orE t T p).2 = t ∨ T (orE t T p).2 = 44 := by
        rcases v3 with v3 | v3
        · exact .inl v3
        · exact .inr v3.2.1
      have hle : (orE t T p).2 ≤ t := by
        rcases v3 with v3 | v3
        · omega
        · omega
      have hp : p < t := by omega
      obtain ⟨χ1, x1, x2, x3, x4⟩ := cl_order RC hp v1 hE
      obtain ⟨μ1, y1, y2, y3, y4⟩ := mo_order RD (by omega)
      rw [v1] at y3
      have y3' : Rd T t μ1 (orE t T p).2 0 := y3
      have W' : WF (N + 200 * c) G := W
      have hO : ∃ k l v : Nat, (χ1 0 3 = 104 ∧ μ1 0 5 = 104 ∧ χ1 0 4 = nI v ∧ μ1 0 7 = nI v ∧ 1 ≤ v ∧ v ≤ 99) ∨ (χ1 0 2 = nI k ∧ μ1 0 6 = nI k ∧ k < 12 ∧ χ1 0 3 = nI l ∧ μ1 0 5 = nI l ∧ (((l = 62 ∨ l = 60) ∧ χ1 0 4 = nI v ∧ μ1 0 7 = nI v ∧ 1 ≤ v ∧ v ≤ 99) ∨ l = 97 ∨ l = 114)) := by
        rcases y4 v1 with ⟨i1, i2, i3⟩ | ⟨i0, i1, i2, i3, i4⟩
        · rcases x4 with ⟨j1, j2, j3⟩ | ⟨j1, _⟩
          · have w : (nmE t T (p + 1)).1 = false := by
              have := v1; unfold orE at this; rw [if_pos i1] at this; exact this
            have b := nmV_le w
            exact ⟨0, 0, nmV t T (p + 1), .inl ⟨j2, i2, j3, i3, b.1, b.2⟩⟩
          · rw [i1] at j1; cases j1
        · rcases x4 with ⟨j1, _⟩ | ⟨_, j2, j3, j4⟩
          · rw [i0] at j1; cases j1
          · have l := (isc_lt i1).2
            have nq : ¬ isc t T 104 104 p = true := by rw [i0]; exact ff_ne
            by_cases g : isc t T 62 62 (p + 1) = true ∨ isc t T 60 60 (p + 1) = true
            · have w : (nmE t T (p + 2)).1 = false := by
                have := v1; unfold orE at this; rw [if_neg nq, if_pos i1, if_pos g] at this; exact this
              have b := nmV_le w
              have tt : T (p + 1) = 62 ∨ T (p + 1) = 60 := by
                rcases g with g | g
                · have := (isc_lt g).2; omega
                · have := (isc_lt g).2; omega
              have n97' : ¬ (isc t T 97 97 (p + 1) = true ∨ isc t T 114 114 (p + 1) = true) := by
                rintro (k | k)
                · have := (isc_lt k).2; omega
                · have := (isc_lt k).2; omega
              rcases i4 with i4 | i4
              · rcases j4 with j4 | j4
                · exact ⟨T p - 65, T (p + 1), nmV t T (p + 2), .inr ⟨j2, i2, by omega, j3, i3, .inl ⟨tt, j4.2, i4.2, b.1, b.2⟩⟩⟩
                · exact absurd j4 n97'
              · exact absurd i4 n97'
            · have tt : T (p + 1) = 97 ∨ T (p + 1) = 114 := by
                rcases i4 with i4 | i4
                · exact absurd i4.1 g
                · rcases i4 with i4 | i4
                  · have := (isc_lt i4).2; omega
                  · have := (isc_lt i4).2; omega
              exact ⟨T p - 65, T (p + 1), 1, .inr ⟨j2, i2, by omega, j3, i3, .inr tt⟩⟩
      obtain ⟨k, l, v, hO⟩ := hO
      have M1 : Mod (μ1 1) 0 G := by rw [y2.1 1 (by decide)]; exact M
      have c61 : c ≤ 20 := by omega
      obtain ⟨b, σ', μ2, G', a1, a2, a3, a4, a5, a6⟩ := both_order (hs := hs) (n1 := n1) (n2 := n2) (ζ := ζ) (η := η) (δ := δ) (χ := χ1) (μ := μ1) C M1 W' (by omega) hO
      have k0 : ∀ j, j < 3 → μ2 0 j = μ 0 j := fun j hj => (congrFun (a6.1 0 (by decide)) j).trans (y2.2 j hj)
      have k2 : μ2 2 = μ 2 := (a6.1 2 (by decide)).trans (y2.1 2 (by decide))
      have k1 : ∀ j, 256 ≤ j → μ2 1 j = μ 1 j := fun j hj => (a6.2 j (.inr (by omega))).trans (by rw [y2.1 1 (by decide)])
      have R2 : Rd T t μ2 (orE t T p).2 0 := by
        refine ⟨t60, ?_, ?_, ?_, fun i hi => ?_⟩
        · rw [congrFun (a6.1 0 (by decide)) 2]; exact y3'.2.1
        · rw [congrFun (a6.1 0 (by decide)) 3]; exact y3'.2.2.1
        · rw [congrFun (a6.1 0 (by decide)) 4]; exact y3'.2.2.2.1
        · rw [a6.1 2 (by decide)]; exact y3'.2.2.2.2 i hi
      rw [f_X5_run_L39, if_neg (show ¬ (60 : Int32) ≤ nI c from nI_ge (b := 60) (by omega) (by omega)), x1, Option.bind_some]
      simp only [if_true]
      rw [a1, Option.bind_some, f_X6_run_L29, if_neg (show ¬ (1 : Int32) = 0 by decide), y1, Option.bind_some, a2, Option.bind_some]
      simp only []
      have W2 : WF (N + 200 * (c + 1)) G' := by
        have e : N + 200 * c + 200 = N + 200 * (c + 1) := by omega
        rw [← e]; exact a5
      cases b
      · rw [if_neg ff_ne, if_neg ff_ne, if_neg ff_ne]
        simp only [lt]
        rw [nI_zz, f_X6_run_L29, if_pos rfl]
        refine ⟨_, _, _, _, G', rfl, rfl, a3, ?_, wf_mono W2 (by omega) (by omega), x2, fun j hj => ?_, ?_, fun j hj => ?_⟩
        · have : up μ2 0 3 (μ2 0 3 + 1) 1 = μ2 1 := by funext i; rw [up_app, if_neg (by simp)]
          rw [this]; exact a4
        · rw [up_app, if_neg (by omega)]; exact k0 j hj
        · have : up μ2 0 3 (μ2 0 3 + 1) 2 = μ2 2 := by funext i; rw [up_app, if_neg (by simp)]
          rw [this]; exact k2
        · rw [up_app, if_neg (by simp)]; exact k1 j hj
      · rw [if_pos rfl, if_pos rfl, if_pos rfl, R2.2.1, R2.2.2.1, nI_1, nI_1]
        simp only [lt]
        have u1 : up μ2 0 3 (nI ((orE t T p).2 + 1)) 1 = μ2 1 := by funext i; rw [up_app, if_neg (by simp)]
        have u2 : up μ2 0 3 (nI ((orE t T p).2 + 1)) 2 = μ2 2 := by funext i; rw [up_app, if_neg (by simp)]
        rcases v3 with v3 | ⟨v3, v4, v5⟩
        · rw [if_pos (nI_le (by omega) (by omega)), f_X6_run_L29, if_pos rfl, f_X5_run_L39, if_neg (show ¬ (60 : Int32) ≤ nI (c + 1) from nI_ge (b := 60) (by omega) (by omega))]
          unfold f_X3_readOrder
          rw [x3.2.1, x3.2.2.1, if_neg (nI_nlt (by omega) (by omega)), Option.bind_some]
          simp only []
          rw [if_neg ff_ne]
          refine ⟨_, _, _, _, G', rfl, rfl, a3, by rw [u1]; exact a4, wf_mono W2 (by omega) (by omega), x2, fun j hj => ?_, by rw [u2]; exact k2, fun j hj => ?_⟩
          · rw [up_app, if_neg (by omega)]; exact k0 j hj
          · rw [u1]; exact k1 j hj
        · rw [if_neg (nI_ge v3 (by omega))]
          obtain ⟨r, σ3, χ3, μ3, G3, g1, g2, g3, g4, g5, g6, g7, g8, g9⟩ := ih ((orE t T p).2 + 1) (n + 1) (m + 1) (c + 1) q σ' χ1 (up μ2 0 3 (nI ((orE t T p).2 + 1))) G' (by omega) v5 (by omega) (by omega) (by omega) W2 a3 (by rw [u1]; exact a4) x3 R2.at
          refine ⟨r, σ3, χ3, μ3, G3, g1, g2, g3, g4, g5, x2.tr g6, fun j hj => ?_, g8.trans (u2.trans k2), fun j hj => ?_⟩
          · rw [g7 j hj, up_app, if_neg (by omega)]; exact k0 j hj
          · rw [g9 j hj, u1]; exact k1 j hj
theorem sim_run {N : Nat} {G : NB} {z : Nat} {H : Nat → NB} {hs : Int32} {n0 n1 : Blk} {ζ : Row} {η : Nat → Blk} {χ μ : Blk} (S : St N G z H hs n0 n1 ζ η χ μ) (hN : N + 800000 ≤ 536870912) (n2 : Blk) (δ : Row) : ∃ r n0' ζ' η' χ' μ', f_X5_run hs n0 n1 n2 ζ η δ χ = some (r, n0', ζ', η', χ') ∧ f_X6_run μ = some (r, μ') ∧ Inv (N + 500000) hs n0' n1 ζ' η' χ' μ' := by
  obtain ⟨T, t, r, μ1, X, h1, h2, h3, h4⟩ := S.flt
  have t60 := X.1
  have S1 := S.kp (M := N) (χ' := χ) (Nat.le_refl _) (by omega) h3 rfl rfl
  unfold f_X5_run f_X6_run
  rw [h1, h2, Option.bind_some, Option.bind_some]
  simp only []
  by_cases y : r = -100005
  · obtain ⟨vv, m4⟩ := h4 y
    obtain ⟨ζ', η', μ2, a1, a2, S2, p2⟩ := S1.rec
    rw [if_pos y, if_pos y, a1, a2, Option.bind_some, Option.bind_some, lt_app, lt_app]
    have RC : Rc T t (f_X3_goToBegin χ) 0 := by
      unfold f_X3_goToBegin
      simp only [lt]
      rw [e0]
      exact ⟨t60, by rw [up_app, if_neg (by decide)]; exact X.2.1, by rw [up_app, if_pos ⟨rfl, rfl⟩], fun i hi => ⟨(X.2.2.2 i hi).1, (X.2.2.2 i hi).2.1, by rw [up_app, if_neg (by simp)]; exact (X.2.2.2 i hi).2.2.1⟩⟩
    have KC : Kc χ (f_X3_goToBegin χ) := by
      unfold f_X3_goToBegin
      simp only [lt]
      exact Kc.up ⟨rfl, rfl⟩ (by decide)
    have RD : Rd T t (up μ2 0 3 0) 0 0 := by
      refine ⟨t60, ?_, ?_, ?_, fun i hi => ⟨(X.2.2.2 i hi).1, (X.2.2.2 i hi).2.1, ?_⟩⟩
      · rw [up_app, if_neg (by decide), p2 0 2 (by decide) (by decide)]; exact X.2.2.1
      · rw [up_app, if_pos ⟨rfl, rfl⟩, e0]
      · rw [up_app, if_neg (by decide), p2 0 4 (by decide) (by decide)]; exact m4
      · rw [up_app, if_neg (by simp), p2 2 i (by decide) (by simp)]; exact (X.2.2.2 i hi).2.2.2
    have W0 : WF (N + 200 * 0) G := by
      have e : N + 200 * 0 = N := by omega
      rw [e]; exact S.wf
    have u1 : up μ2 0 3 0 1 = μ2 1 := by funext i; rw [up_app, if_neg (by simp)]
    have u2 : up μ2 0 3 0 2 = μ2 2 := by funext i; rw [up_app, if_neg (by simp)]
    obtain ⟨r', σ', χ', μ', G', g1, g2, g3, g4, g5, g6, g7, g8, g9⟩ := both_run (hs := hs) (n1 := n1) (n2 := n2) (ζ := ζ') (η := η') (δ := δ) (T := T) (t := t) (N := N) (by omega) t 0 FU FU 0 (t + 1) n0 (f_X3_goToBegin χ) (up μ2 0 3 0) G (by omega) vv (by omega) (FU_big2 (by omega)) (FU_big2 (by omega)) W0 S.cl (by rw [u1]; exact S2.mo) RC RD
    rw [← e0] at g1 g2
    rw [g1, g2]
    have W9 : WF (N + 500000) G' := by
      have e : N + 200 * 61 ≤ N + 500000 := by omega
      have e' : N + 500000 ≤ 536870912 := by omega
      generalize N + 200 * 61 = Q at g5 e
      generalize N + 500000 = Q' at e e' ⊢
      exact wf_mono g5 e e'
    refine ⟨r', σ', ζ', η', χ', μ', rfl, rfl, _, _, _, S2.chg (by omega) (by omega) W9 g3 g4 (fun j hj => ?_) (g8.trans u2) (fun j hj _ => ?_) (KC.tr g6).1 (KC.tr g6).2⟩
    · rw [g7 j hj, up_app, if_neg (by omega)]
    · rw [g9 j hj, u1]
  · rw [if_neg y, if_neg y]
    exact ⟨_, _, _, _, _, _, rfl, rfl, _, _, _, S1.mono (by omega) (by omega)⟩
