/-! the text: how an order is read, in both -/
def isc (t : Nat) (T : Nat → Nat) (lo hi p : Nat) : Bool := decide (p < t ∧ lo ≤ T p ∧ T p ≤ hi)
/-- behind a number from p: whether it is wrong, and where -/
def nmE (t : Nat) (T : Nat → Nat) (p : Nat) : Bool × Nat := if isc t T 49 57 p = true then (if isc t T 48 57 (p + 1) = true then (false, p + 2) else (false, p + 1)) else (true, p)
def nmV (t : Nat) (T : Nat → Nat) (p : Nat) : Nat := if isc t T 49 57 p = true then (if isc t T 48 57 (p + 1) = true then 10 * (T p - 48) + T (p + 1) - 48 else T p - 48) else 0
/-- behind an order from p -/
def orE (t : Nat) (T : Nat → Nat) (p : Nat) : Bool × Nat := if isc t T 104 104 p = true then nmE t T (p + 1) else if isc t T 65 76 p = true then (if isc t T 62 62 (p + 1) = true ∨ isc t T 60 60 (p + 1) = true then nmE t T (p + 2) else if isc t T 97 97 (p + 1) = true ∨ isc t T 114 114 (p + 1) = true then (false, p + 2) else (true, p + 1)) else (true, p)
def Tt (T : Nat → Nat) (t : Nat) (χ μ : Blk) : Prop := t ≤ 60 ∧ χ 0 0 = nI t ∧ μ 0 2 = nI t ∧ ∀ i, i < t → 32 ≤ T i ∧ T i ≤ 126 ∧ χ 1 i = nI (T i) ∧ μ 2 i = nI (T i)
theorem tx_tt {χ μ : Blk} (h : Tx χ μ) : ∃ T t, Tt T t χ μ := by
  obtain ⟨t, t1, t2, t3, t4⟩ := h
  refine ⟨fun i => (χ 1 i).toNatClampNeg, t, t1, t2, t3, fun i hi => ?_⟩
  obtain ⟨c, c1, c2, c3, c4⟩ := t4 i hi
  have : (χ 1 i).toNatClampNeg = c := by rw [c3, nI_clamp (by omega)]
  simp only [this]
  exact ⟨c1, c2, c3, c4⟩
/-- the reference's reading, at p -/
def Rd (T : Nat → Nat) (t : Nat) (μ : Blk) (p : Nat) (w : Int32) : Prop := t ≤ 60 ∧ μ 0 2 = nI t ∧ μ 0 3 = nI p ∧ μ 0 4 = w ∧ ∀ i, i < t → 32 ≤ T i ∧ T i ≤ 126 ∧ μ 2 i = nI (T i)
def Kp (μ μ' : Blk) : Prop := (∀ q, q ≠ 0 → μ' q = μ q) ∧ ∀ j, j < 3 → μ' 0 j = μ 0 j
theorem Kp.rf {μ : Blk} : Kp μ μ := ⟨fun _ _ => rfl, fun _ _ => rfl⟩
theorem Kp.tr {μ μ1 μ2 : Blk} (h1 : Kp μ μ1) (h2 : Kp μ1 μ2) : Kp μ μ2 := ⟨fun q hq => (h2.1 q hq).trans (h1.1 q hq), fun j hj => (h2.2 j hj).trans (h1.2 j hj)⟩
theorem Kp.up {μ μ1 : Blk} (h1 : Kp μ μ1) {j : Nat} {v : Int32} (hj : 3 ≤ j) : Kp μ (up μ1 0 j v) := by
  refine h1.tr ⟨fun q hq => ?_, fun i hi => ?_⟩
  · funext i; rw [up_app, if_neg (fun c => hq c.1)]
  · rw [up_app, if_neg (by omega)]
theorem Rd.at {T : Nat → Nat} {t : Nat} {μ : Blk} {p q : Nat} {w : Int32} (R : Rd T t μ p w) : Rd T t (up μ 0 3 (nI q)) q w := by
  refine ⟨R.1, ?_, ?_, ?_, fun i hi => ?_⟩
  · rw [up_app, if_neg (by decide)]; exact R.2.1
  · rw [up_app, if_pos ⟨rfl, rfl⟩]
  · rw [up_app, if_neg (by decide)]; exact R.2.2.2.1
  · rw [up_app, if_neg (by simp)]; exact R.2.2.2.2 i hi
theorem Rd.wr {T : Nat → Nat} {t : Nat} {μ : Blk} {p : Nat} {w v : Int32} (R : Rd T t μ p w) : Rd T t (up μ 0 4 v) p v := by
  refine ⟨R.1, ?_, ?_, ?_, fun i hi => ?_⟩
  · rw [up_app, if_neg (by decide)]; exact R.2.1
  · rw [up_app, if_neg (by decide)]; exact R.2.2.1
  · rw [up_app, if_pos ⟨rfl, rfl⟩]
  · rw [up_app, if_neg (by simp)]; exact R.2.2.2.2 i hi
theorem Rd.hi {T : Nat → Nat} {t : Nat} {μ : Blk} {p j : Nat} {w v : Int32} (R : Rd T t μ p w) (hj : 5 ≤ j) : Rd T t (up μ 0 j v) p w := by
  refine ⟨R.1, ?_, ?_, ?_, fun i hi => ?_⟩
  · rw [up_app, if_neg (by omega)]; exact R.2.1
  · rw [up_app, if_neg (by omega)]; exact R.2.2.1
  · rw [up_app, if_neg (by omega)]; exact R.2.2.2.1
  · rw [up_app, if_neg (by simp)]; exact R.2.2.2.2 i hi
theorem isNow {T : Nat → Nat} {t : Nat} {μ : Blk} {p : Nat} (R : Rd T t μ p 0) (hp : p ≤ 100) (lo hi : Nat) (hl : lo ≤ 200) (hh : hi ≤ 200) : f_X6_isNow μ (nI lo) (nI hi) = some (isc t T lo hi p) := by
  obtain ⟨t60, r2, r3, r4, r5⟩ := R
  unfold f_X6_isNow isc
  rw [r4, if_pos rfl, r2, r3]
  by_cases q : p < t
  · have c := r5 p q
    rw [if_neg (nI_ge q (by omega)), ib_nI (by omega) (by decide), if_pos rfl, nI_clamp (by omega), c.2.2]
    simp only [lt]
    by_cases g : lo ≤ T p ∧ T p ≤ hi
    · rw [if_pos ((in_nI (by omega) (by omega)).mpr ⟨T p, g.1, g.2, rfl⟩), decide_eq_true ⟨q, g⟩]
    · rw [if_neg (fun k => by
        obtain ⟨n, n1, n2, n3⟩ := (in_nI (by omega) (by omega)).mp k
        have := (nI_eq (by omega) (by omega)).mp n3
        exact g ⟨by omega, by omega⟩), decide_eq_false (fun k => g k.2)]
  · rw [if_pos (nI_le (by omega) (by omega)), decide_eq_false (fun k => q k.1)]
theorem isNow1 {T : Nat → Nat} {t : Nat} {μ : Blk} {p : Nat} (R : Rd T t μ p 1) (lo hi : Int32) : f_X6_isNow μ lo hi = some false := by
  unfold f_X6_isNow
  rw [R.2.2.2.1, if_neg (by decide)]
theorem isc_lt {t : Nat} {T : Nat → Nat} {lo hi p : Nat} (h : isc t T lo hi p = true) : p < t ∧ lo ≤ T p ∧ T p ≤ hi := by
  simpa [isc] using h
theorem Rd.ch {T : Nat → Nat} {t : Nat} {μ : Blk} {p : Nat} {w : Int32} (R : Rd T t μ p w) (h : p < t) : μ 2 p = nI (T p) := (R.2.2.2.2 p h).2.2
theorem ff_ne : ¬ (false = true) := by decide
theorem ff_or : ¬ (false = true ∨ false = true) := by decide
theorem n48 : (48 : Int32) = nI 48 := by decide
theorem n65 : (65 : Int32) = nI 65 := by decide
/-- the reference reads a number -/
theorem mo_number {T : Nat → Nat} {t : Nat} {μ : Blk} {p : Nat} (R : Rd T t μ p 0) (hp : p ≤ 100) : ∃ μ', f_X6_readsNumber μ = some μ' ∧ Kp μ μ' ∧ Rd T t μ' (nmE t T p).2 (cond (nmE t T p).1 1 0) ∧ μ' 0 7 = nI (nmV t T p) ∧ μ' 0 5 = μ 0 5 ∧ μ' 0 6 = μ 0 6 := by
  have t60 := R.1
  have i1 : f_X6_isNow μ 49 57 = some (isc t T 49 57 p) := isNow R hp 49 57 (by decide) (by decide)
  unfold f_X6_readsNumber
  rw [if_pos R.2.2.2.1, i1, Option.bind_some]
  unfold nmE nmV
  cases q : isc t T 49 57 p
  · rw [if_neg ff_ne, if_neg ff_ne, if_neg ff_ne]
    simp only [lt]
    have R1 : Rd T t (up (up μ 0 4 1) 0 7 0) p 1 := R.wr.hi (by decide)
    rw [if_neg (by rw [R1.2.2.2.1]; decide)]
    refine ⟨_, rfl, (Kp.rf.up (by decide)).up (by decide), R1, ?_, ?_, ?_⟩
    · rw [up_app, if_pos ⟨rfl, rfl⟩, e0]
    · rw [up_app, if_neg (by decide), up_app, if_neg (by decide)]
    · rw [up_app, if_neg (by decide), up_app, if_neg (by decide)]
  · obtain ⟨q1, q2, q3⟩ := isc_lt q
    rw [if_pos rfl, if_pos rfl, if_pos rfl]
    simp only [lt]
    have R1 : Rd T t (up (up μ 0 4 0) 0 7 0) p 0 := R.wr.hi (by decide)
    have K1 : Kp μ (up (up μ 0 4 0) 0 7 0) := (Kp.rf.up (by decide)).up (by decide)
    have s5 : up (up μ 0 4 0) 0 7 0 0 5 = μ 0 5 := by rw [up_app, if_neg (by decide), up_app, if_neg (by decide)]
    have s6 : up (up μ 0 4 0) 0 7 0 0 6 = μ 0 6 := by rw [up_app, if_neg (by decide), up_app, if_neg (by decide)]
    generalize up (up μ 0 4 0) 0 7 0 = m29 at R1 K1 s5 s6 ⊢
    rw [if_pos R1.2.2.2.1, R1.2.2.1, ib_nI (by omega) (by decide), if_pos rfl, nI_clamp (by omega), R1.ch q1, n48, nI_sub (by omega)]
    have R2 : Rd T t (up m29 0 7 (nI (T p - 48))) p 0 := R1.hi (by decide)
    have K2 : Kp μ (up m29 0 7 (nI (T p - 48))) := K1.up (by decide)
    have s5' : up m29 0 7 (nI (T p - 48)) 0 5 = μ 0 5 := by rw [up_app, if_neg (by decide), s5]
    have s6' : up m29 0 7 (nI (T p - 48)) 0 6 = μ 0 6 := by rw [up_app, if_neg (by decide), s6]
    have s7' : up m29 0 7 (nI (T p - 48)) 0 7 = nI (T p - 48) := by rw [up_app, if_pos ⟨rfl, rfl⟩]
    generalize up m29 0 7 (nI (T p - 48)) = m52 at R2 K2 s5' s6' s7' ⊢
    rw [R2.2.2.1, nI_1]
    have R3 : Rd T t (up m52 0 3 (nI (p + 1))) (p + 1) 0 := R2.at
    have K3 : Kp μ (up m52 0 3 (nI (p + 1))) := K2.up (by decide)
    have s5'' : up m52 0 3 (nI (p + 1)) 0 5 = μ 0 5 := by rw [up_app, if_neg (by decide), s5']
    have s6'' : up m52 0 3 (nI (p + 1)) 0 6 = μ 0 6 := by rw [up_app, if_neg (by decide), s6']
    have s7'' : up m52 0 3 (nI (p + 1)) 0 7 = nI (T p - 48) := by rw [up_app, if_neg (by decide), s7']
    generalize up m52 0 3 (nI (p + 1)) = m62 at R3 K3 s5'' s6'' s7'' ⊢
    have i2 : f_X6_isNow m62 (nI 48) 57 = some (isc t T 48 57 (p + 1)) := isNow R3 (by omega) 48 57 (by decide) (by decide)
    rw [i2, Option.bind_some]
    cases g : isc t T 48 57 (p + 1)
    · rw [if_neg ff_ne, if_neg ff_ne, if_neg ff_ne]
      exact ⟨_, rfl, K3, R3, s7'', s5'', s6''⟩
    · obtain ⟨g1, g2, g3⟩ := isc_lt g
      rw [if_pos rfl, if_pos rfl, if_pos rfl, R3.2.2.1, ib_nI (by omega) (by decide), if_pos rfl, nI_clamp (by omega), R3.ch g1, s7'', e10, nI_mul, nI_add, nI_sub (by omega)]
      have R4 : Rd T t (up m62 0 7 (nI (10 * (T p - 48) + T (p + 1) - 48))) (p + 1) 0 := R3.hi (by decide)
      have K4 : Kp μ (up m62 0 7 (nI (10 * (T p - 48) + T (p + 1) - 48))) := K3.up (by decide)
      rw [R4.2.2.1, nI_1]
      refine ⟨_, rfl, K4.up (by decide), R4.at, ?_, ?_, ?_⟩
      · rw [up_app, if_neg (by decide), up_app, if_pos ⟨rfl, rfl⟩]
      · rw [up_app, if_neg (by decide), up_app, if_neg (by decide), s5'']
      · rw [up_app, if_neg (by decide), up_app, if_neg (by decide), s6'']
theorem isCh_of {n : Nat} (h : n ≤ 126) : isCh (nI n) = true := by
  unfold isCh
  rw [nI_toInt (by omega)]
  simp only [Bool.and_eq_true, decide_eq_true_eq]
  omega
/-- the reference reads an order -/
theorem mo_order {T : Nat → Nat} {t : Nat} {μ : Blk} {p : Nat} (R : Rd T t μ p 0) (hp : p ≤ 90) : ∃ μ', f_X6_readsOrder μ = some μ' ∧ Kp μ μ' ∧ Rd T t μ' (orE t T p).2 (cond (orE t T p).1 1 0) ∧ ((orE t T p).1 = false → (isc t T 104 104 p = true ∧ μ' 0 5 = 104 ∧ μ' 0 7 = nI (nmV t T (p + 1))) ∨ (isc t T 104 104 p = false ∧ isc t T 65 76 p = true ∧ μ' 0 6 = nI (T p - 65) ∧ μ' 0 5 = nI (T (p + 1)) ∧ (((isc t T 62 62 (p + 1) = true ∨ isc t T 60 60 (p + 1) = true) ∧ μ' 0 7 = nI (nmV t T (p + 2))) ∨ isc t T 97 97 (p + 1) = true ∨ isc t T 114 114 (p + 1) = true))) := by
  have t60 := R.1
  unfold f_X6_readsOrder orE
  simp only [lt]
  have R1 : Rd T t (up μ 0 5 32) p 0 := R.hi (by decide)
  have K1 : Kp μ (up μ 0 5 32) := Kp.rf.up (by decide)
  generalize up μ 0 5 32 = m3 at R1 K1 ⊢
  have i1 : f_X6_isNow m3 104 104 = some (isc t T 104 104 p) := isNow R1 (by omega) 104 104 (by decide) (by decide)
  rw [i1, Option.bind_some]
  cases q : isc t T 104 104 p
  · rw [if_neg ff_ne, if_neg ff_ne]
    have i2 : f_X6_isNow m3 65 76 = some (isc t T 65 76 p) := isNow R1 (by omega) 65 76 (by decide) (by decide)
    rw [i2, Option.bind_some]
    cases g : isc t T 65 76 p
    · rw [if_neg ff_ne, if_neg ff_ne]
      exact ⟨_, rfl, K1.up (by decide), R1.wr, fun c => by cases c⟩
    · obtain ⟨g1, g2, g3⟩ := isc_lt g
      rw [if_pos rfl, if_pos rfl, R1.2.2.1, ib_nI (by omega) (by decide), if_pos rfl, nI_clamp (by omega), R1.ch g1, n65, nI_sub (by omega)]
      have R2 : Rd T t (up m3 0 6 (nI (T p - 65))) p 0 := R1.hi (by decide)
      have K2 : Kp μ (up m3 0 6 (nI (T p - 65))) := K1.up (by decide)
      have s6 : up m3 0 6 (nI (T p - 65)) 0 6 = nI (T p - 65) := by rw [up_app, if_pos ⟨rfl, rfl⟩]
      generalize up m3 0 6 (nI (T p - 65)) = m64 at R2 K2 s6 ⊢
      rw [R2.2.2.1, nI_1]
      have R3 : Rd T t (up m64 0 3 (nI (p + 1))) (p + 1) 0 := R2.at
      have K3 : Kp μ (up m64 0 3 (nI (p + 1))) := K2.up (by decide)
      have s6' : up m64 0 3 (nI (p + 1)) 0 6 = nI (T p - 65) := by rw [up_app, if_neg (by decide), s6]
      generalize up m64 0 3 (nI (p + 1)) = m74 at R3 K3 s6' ⊢
      have j1 : f_X6_isNow m74 62 62 = some (isc t T 62 62 (p + 1)) := isNow R3 (by omega) 62 62 (by decide) (by decide)
      have j2 : f_X6_isNow m74 60 60 = some (isc t T 60 60 (p + 1)) := isNow R3 (by omega) 60 60 (by decide) (by decide)
      have j3 : f_X6_isNow m74 97 97 = some (isc t T 97 97 (p + 1)) := isNow R3 (by omega) 97 97 (by decide) (by decide)
      have j4 : f_X6_isNow m74 114 114 = some (isc t T 114 114 (p + 1)) := isNow R3 (by omega) 114 114 (by decide) (by decide)
      rw [j1, Option.bind_some]
      cases a1 : isc t T 62 62 (p + 1)
      · rw [if_neg ff_ne, j2, Option.bind_some]
        cases a2 : isc t T 60 60 (p + 1)
        · rw [if_neg ff_ne, if_neg ff_or, if_pos R3.2.2.2.1, j3, Option.bind_some]
          cases a3 : isc t T 97 97 (p + 1)
          · rw [if_neg ff_ne, j4, Option.bind_some]
            cases a4 : isc t T 114 114 (p + 1)
            · rw [if_neg ff_ne, if_neg ff_or]
              have R4 : Rd T t (up m74 0 4 1) (p + 1) 1 := R3.wr
              have K4 : Kp μ (up m74 0 4 1) := K3.up (by decide)
              rw [if_neg (by rw [R4.2.2.2.1]; decide)]
              have R5 : Rd T t (up (up m74 0 4 1) 0 5 32) (p + 1) 1 := R4.hi (by decide)
              rw [if_neg (by rw [R5.2.2.2.1]; decide), R5.2.2.1, show nI (p + 1) + 0 = nI (p + 1) by rw [e0, nI_add]]
              exact ⟨_, rfl, (K4.up (by decide)).up (by decide), R5.at, fun c => by cases c⟩
            · obtain ⟨h1, h2, h3⟩ := isc_lt a4
              rw [if_pos rfl, if_pos (show false = true ∨ true = true from .inr rfl)]
              have R4 : Rd T t (up m74 0 4 0) (p + 1) 0 := R3.wr
              have K4 : Kp μ (up m74 0 4 0) := K3.up (by decide)
              have s6'' : up m74 0 4 0 0 6 = nI (T p - 65) := by rw [up_app, if_neg (by decide), s6']
              generalize up m74 0 4 0 = m144 at R4 K4 s6'' ⊢
              rw [if_pos R4.2.2.2.1, R4.2.2.1, ib_nI (by omega) (by decide), if_pos rfl, nI_clamp (by omega), R4.ch h1, if_pos (isCh_of (by omega))]
              have R5 : Rd T t (up m144 0 5 (nI (T (p + 1)))) (p + 1) 0 := R4.hi (by decide)
              rw [if_pos R5.2.2.2.1, R5.2.2.1, nI_1]
              refine ⟨_, rfl, (K4.up (by decide)).up (by decide), R5.at, fun _ => .inr ⟨rfl, rfl, ?_, ?_, .inr (.inr rfl)⟩⟩
              · rw [up_app, if_neg (by decide), up_app, if_neg (by decide), s6'']
              · rw [up_app, if_neg (by decide), up_app, if_pos ⟨rfl, rfl⟩]
          · obtain ⟨h1, h2, h3⟩ := isc_lt a3
            rw [if_pos rfl, if_pos (show true = true ∨ isc t T 114 114 (p + 1) = true from .inl rfl)]
            have R4 : Rd T t (up m74 0 4 0) (p + 1) 0 := R3.wr
            have K4 : Kp μ (up m74 0 4 0) := K3.up (by decide)
            have s6'' : up m74 0 4 0 0 6 = nI (T p - 65) := by rw [up_app, if_neg (by decide), s6']
            generalize up m74 0 4 0 = m144 at R4 K4 s6'' ⊢
            rw [if_pos R4.2.2.2.1, R4.2.2.1, ib_nI (by omega) (by decide), if_pos rfl, nI_clamp (by omega), R4.ch h1, if_pos (isCh_of (by omega))]
            have R5 : Rd T t (up m144 0 5 (nI (T (p + 1)))) (p + 1) 0 := R4.hi (by decide)
            rw [if_pos R5.2.2.2.1, R5.2.2.1, nI_1]
            refine ⟨_, rfl, (K4.up (by decide)).up (by decide), R5.at, fun _ => .inr ⟨rfl, rfl, ?_, ?_, .inr (.inl rfl)⟩⟩
            · rw [up_app, if_neg (by decide), up_app, if_neg (by decide), s6'']
            · rw [up_app, if_neg (by decide), up_app, if_pos ⟨rfl, rfl⟩]
        · obtain ⟨h1, h2, h3⟩ := isc_lt a2
          rw [if_pos rfl, if_pos (show false = true ∨ true = true from .inr rfl), if_pos R3.2.2.2.1]
          have R4 : Rd T t (up m74 0 4 0) (p + 1) 0 := R3.wr
          have K4 : Kp μ (up m74 0 4 0) := K3.up (by decide)
          have s6'' : up m74 0 4 0 0 6 = nI (T p - 65) := by rw [up_app, if_neg (by decide), s6']
          generalize up m74 0 4 0 = m144 at R4 K4 s6'' ⊢
          rw [if_pos R4.2.2.2.1, R4.2.2.1, ib_nI (by omega) (by decide), if_pos rfl, nI_clamp (by omega), R4.ch h1, if_pos (isCh_of (by omega))]
          have R5 : Rd T t (up m144 0 5 (nI (T (p + 1)))) (p + 1) 0 := R4.hi (by decide)
          have K5 : Kp μ (up m144 0 5 (nI (T (p + 1)))) := K4.up (by decide)
          have x5 : up m144 0 5 (nI (T (p + 1))) 0 5 = nI (T (p + 1)) := by rw [up_app, if_pos ⟨rfl, rfl⟩]
          have x6 : up m144 0 5 (nI (T (p + 1))) 0 6 = nI (T p - 65) := by rw [up_app, if_neg (by decide), s6'']
          generalize up m144 0 5 (nI (T (p + 1))) = m169 at R5 K5 x5 x6 ⊢
          rw [if_pos R5.2.2.2.1, R5.2.2.1, nI_1]
          have R6 : Rd T t (up m169 0 3 (nI (p + 1 + 1))) (p + 1 + 1) 0 := R5.at
          have K6 : Kp μ (up m169 0 3 (nI (p + 1 + 1))) := K5.up (by decide)
          obtain ⟨μ', n1, n2, n3, n4, n5, n6⟩ := mo_number R6 (by omega)
          rw [n1, Option.bind_some]
          refine ⟨μ', rfl, K6.tr n2, n3, fun _ => .inr ⟨rfl, rfl, ?_, ?_, .inl ⟨.inr rfl, n4⟩⟩⟩
          · rw [n6, up_app, if_neg (by decide), x6]
          · rw [n5, up_app, if_neg (by decide), x5]
      · obtain ⟨h1, h2, h3⟩ := isc_lt a1
        rw [if_pos rfl, if_pos (show true = true ∨ isc t T 60 60 (p + 1) = true from .inl rfl), if_pos R3.2.2.2.1]
        have R4 : Rd T t (up m74 0 4 0) (p + 1) 0 := R3.wr
        have K4 : Kp μ (up m74 0 4 0) := K3.up (by decide)
        have s6'' : up m74 0 4 0 0 6 = nI (T p - 65) := by rw [up_app, if_neg (by decide), s6']
        generalize up m74 0 4 0 = m144 at R4 K4 s6'' ⊢
        rw [if_pos R4.2.2.2.1, R4.2.2.1, ib_nI (by omega) (by decide), if_pos rfl, nI_clamp (by omega), R4.ch h1, if_pos (isCh_of (by omega))]
        have R5 : Rd T t (up m144 0 5 (nI (T (p + 1)))) (p + 1) 0 := R4.hi (by decide)
        have K5 : Kp μ (up m144 0 5 (nI (T (p + 1)))) := K4.up (by decide)
        have x5 : up m144 0 5 (nI (T (p + 1))) 0 5 = nI (T (p + 1)) := by rw [up_app, if_pos ⟨rfl, rfl⟩]
        have x6 : up m144 0 5 (nI (T (p + 1))) 0 6 = nI (T p - 65) := by rw [up_app, if_neg (by decide), s6'']
        generalize up m144 0 5 (nI (T (p + 1))) = m169 at R5 K5 x5 x6 ⊢
        rw [if_pos R5.2.2.2.1, R5.2.2.1, nI_1]
        have R6 : Rd T t (up m169 0 3 (nI (p + 1 + 1))) (p + 1 + 1) 0 := R5.at
        have K6 : Kp μ (up m169 0 3 (nI (p + 1 + 1))) := K5.up (by decide)
        obtain ⟨μ', n1, n2, n3, n4, n5, n6⟩ := mo_number R6 (by omega)
        rw [n1, Option.bind_some]
        refine ⟨μ', rfl, K6.tr n2, n3, fun _ => .inr ⟨rfl, rfl, ?_, ?_, .inl ⟨.inl rfl, n4⟩⟩⟩
        · rw [n6, up_app, if_neg (by decide), x6]
        · rw [n5, up_app, if_neg (by decide), x5]
  · obtain ⟨q1, q2, q3⟩ := isc_lt q
    rw [if_pos rfl, if_pos rfl]
    have R2 : Rd T t (up m3 0 5 104) p 0 := R1.hi (by decide)
    have K2 : Kp μ (up m3 0 5 104) := K1.up (by decide)
    have s5 : up m3 0 5 104 0 5 = 104 := by rw [up_app, if_pos ⟨rfl, rfl⟩]
    generalize up m3 0 5 104 = m20 at R2 K2 s5 ⊢
    rw [R2.2.2.1, nI_1]
    have R3 : Rd T t (up m20 0 3 (nI (p + 1))) (p + 1) 0 := R2.at
    have K3 : Kp μ (up m20 0 3 (nI (p + 1))) := K2.up (by decide)
    obtain ⟨μ', n1, n2, n3, n4, n5, n6⟩ := mo_number R3 (by omega)
    rw [n1, Option.bind_some]
    refine ⟨μ', rfl, K3.tr n2, n3, fun _ => .inl ⟨rfl, ?_, n4⟩⟩
    rw [n5, up_app, if_neg (by decide), s5]
