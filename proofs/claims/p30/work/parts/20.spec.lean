/-! the pure side: numbers, the class's state and the reference's row as pictures of one state of natural numbers -/
theorem e0 : (0 : Int32) = nI 0 := by decide
theorem e1 : (1 : Int32) = nI 1 := by decide
theorem e2 : (2 : Int32) = nI 2 := by decide
theorem e3 : (3 : Int32) = nI 3 := by decide
theorem e4 : (4 : Int32) = nI 4 := by decide
theorem e5 : (5 : Int32) = nI 5 := by decide
theorem e6 : (6 : Int32) = nI 6 := by decide
theorem e9 : (9 : Int32) = nI 9 := by decide
theorem e10 : (10 : Int32) = nI 10 := by decide
theorem e12 : (12 : Int32) = nI 12 := by decide
theorem e16 : (16 : Int32) = nI 16 := by decide
theorem e20 : (20 : Int32) = nI 20 := by decide
theorem e99 : (99 : Int32) = nI 99 := by decide
theorem e256 : (256 : Int32) = nI 256 := by decide
theorem e1000 : (1000 : Int32) = nI 1000 := by decide
theorem ib_nI {k n : Nat} (h : k < n) (hn : n < 2 ^ 31) : ib (nI k) n = true := by
  rw [ib_iff, nI_toInt (by omega)]
  omega
theorem nI_sub {a b : Nat} (h : b ≤ a) : nI a - nI b = nI (a - b) := pk_sub h
theorem nI_addneg {a b : Nat} (h : b ≤ a) : nI a + -(nI b) = nI (a - b) := by
  rw [← Int32.sub_eq_add_neg]; exact pk_sub h
theorem nI_mul (a b : Nat) : nI a * nI b = nI (a * b) := pk_mul a b
theorem nI_min {a b : Nat} (ha : a < 2 ^ 31) (hb : b < 2 ^ 31) : minF (nI a) (nI b) = nI (min a b) := by
  unfold minF
  by_cases h : b < a
  · rw [if_pos ((nI_ltI hb ha).mpr h), Nat.min_eq_right (by omega)]
  · rw [if_neg (fun c => h ((nI_ltI hb ha).mp c)), Nat.min_eq_left (by omega)]
theorem nI_max {a b : Nat} (ha : a < 2 ^ 31) (hb : b < 2 ^ 31) : maxF (nI a) (nI b) = nI (max a b) := by
  unfold maxF
  by_cases h : a < b
  · rw [if_pos ((nI_ltI ha hb).mpr h), Nat.max_eq_right (by omega)]
  · rw [if_neg (fun c => h ((nI_ltI ha hb).mp c)), Nat.max_eq_left (by omega)]
def ds (a b : Nat) : Nat := (a - b) + (b - a)
theorem nI_absd {a b : Nat} (ha : a < 2 ^ 30) (hb : b < 2 ^ 30) : absF (nI a - nI b) = nI (ds a b) := by
  unfold absF ds
  by_cases h : b ≤ a
  · rw [nI_sub h, if_pos (nI_pos' (by omega))]
    congr 1
    omega
  · have h2 := pk_sneg (a := a) (b := b) hb (by omega)
    have h3 : ¬ 0 ≤ nI a - nI b := by
      rw [Int32.le_iff_toInt_le]
      rw [Int32.lt_iff_toInt_lt] at h2
      omega
    rw [if_neg h3]
    have h4 : (0 : Int32) - (nI a - nI b) = nI b - nI a := by
      rw [Int32.zero_sub, Int32.neg_sub]
    rw [h4, nI_sub (by omega)]
    congr 1
    omega
theorem nI_div {a b : Nat} (ha : a < 2 ^ 31) (h0 : 0 < b) (hb : b < 2 ^ 31) : nI a / nI b = nI (a / b) := pk_div ha h0 hb
theorem nI_rem {a b : Nat} (ha : a < 2 ^ 31) (h0 : 0 < b) (hb : b < 2 ^ 31) : nI a - nI (a / b) * nI b = nI (a % b) := by
  have h := pk_rem ha h0 hb
  rw [pk_div ha h0 hb] at h
  exact h
theorem at_k {f : Row} {n k : Nat} (h : k < n) (hn : n < 2 ^ 31) : f_X5_at n f (nI k) = some (f k) := by
  unfold f_X5_at
  rw [if_neg (nI_pos (by omega)), if_neg (nI_ge h hn), if_pos (ib_nI h hn), nI_clamp (by omega)]
theorem put_k {f : Row} {n k : Nat} {v : Int32} (h : k < n) (hn : n < 2 ^ 31) : f_X5_put n f (nI k) v = some (upd f k v) := by
  unfold f_X5_put
  rw [if_neg (nI_pos (by omega)), if_neg (nI_ge h hn), if_pos (ib_nI h hn), nI_clamp (by omega)]
  rfl
theorem add_k {f : Row} {n k : Nat} {v : Int32} (h : k < n) (hn : n < 2 ^ 31) : f_X5_add n f (nI k) v = some (upd f k (f k + v)) := by
  unfold f_X5_add
  rw [at_k h hn]
  show (f_X5_put n f (nI k) (f k + v)).bind _ = _
  rw [put_k h hn]
  rfl
theorem ci_k (k c : Nat) : f_X5_counterIndex (nI k) (nI c) = nI (k * 4 + c) := by
  unfold f_X5_counterIndex
  rw [e4, nI_mul, nI_add]
theorem upR_app (σ : Blk) (p : Nat) (f : Row) (q : Nat) : upR σ p f q = if q = p then f else σ q := by
  unfold upR
  by_cases h : q = p
  · subst h; simp
  · rw [if_neg h]
    have : Nat.beq q p = false := by
      cases hh : Nat.beq q p with
      | false => rfl
      | true => exact absurd (Nat.eq_of_beq_eq_true hh) h
    rw [this]; rfl
theorem upd_app (f : Row) (k : Nat) (v : Int32) (j : Nat) : upd f k v j = if j = k then v else f j := rfl
theorem up_app (σ : Blk) (p i : Nat) (v : Int32) (q j : Nat) : up σ p i v q j = if q = p ∧ j = i then v else σ q j := by
  unfold up
  rw [upR_app]
  by_cases h : q = p
  · subst h
    rw [if_pos rfl, upd_app]
    by_cases h2 : j = i
    · rw [if_pos h2, if_pos ⟨rfl, h2⟩]
    · rw [if_neg h2, if_neg (fun c => h2 c.2)]
  · rw [if_neg h, if_neg (fun c => h c.1)]
/-- the state in natural numbers: 0 stiles, rate, hours of a repair, clock; 1 rooms; 2 people; 3, 4 halls of a stile; 5 ways; 6 repair; by counter (4 k + c): 7 counts, 8 slips, 9 seen since the slip was set, 10 missed -/
abbrev NB : Type := Nat → Nat → Nat
def setN (G : NB) (p i v : Nat) : NB := fun q j => if q = p ∧ j = i then v else G q j
def Cls (σ : Blk) (G : NB) : Prop :=
  (∀ i, i < 4 → σ 0 i = nI (G 0 i)) ∧ (∀ h, 1 ≤ h → h < 6 → σ 1 h = nI (G 1 h)) ∧ (∀ h, 1 ≤ h → h < 6 → σ 2 h = nI (G 2 h)) ∧ (∀ k, k < 12 → σ 3 k = nI (G 3 k) ∧ σ 4 k = nI (G 4 k) ∧ σ 5 k = nI (G 5 k) ∧ σ 6 k = nI (G 6 k)) ∧
  ∀ i, i < 48 → σ 7 i = nI (G 7 i) ∧ σ 8 i = nI (G 8 i) ∧ σ 9 i = nI (if G 8 i = 0 then 0 else G 9 i % G 8 i) ∧ σ 10 i = nI (G 10 i)
def WF (N : Nat) (G : NB) : Prop :=
  N ≤ 536870912 ∧ (G 0 0 ≤ 12 ∧ 1 ≤ G 0 1 ∧ G 0 1 ≤ 99 ∧ 1 ≤ G 0 2 ∧ G 0 2 ≤ 48 ∧ G 0 3 ≤ N) ∧ (∀ h, 1 ≤ h → h < 6 → 1 ≤ G 1 h ∧ G 1 h ≤ 500 ∧ G 2 h ≤ G 1 h) ∧ (∀ k, k < 12 → G 3 k < 6 ∧ G 4 k < 6 ∧ G 5 k ≤ 3 ∧ G 6 k ≤ 48) ∧ (∀ k, k < G 0 0 → G 3 k ≠ G 4 k) ∧
  (∀ i, i < 48 → G 7 i ≤ N ∧ G 8 i ≤ 9 ∧ G 8 i ≠ 1 ∧ G 9 i ≤ N ∧ G 10 i ≤ N) ∧ (∀ k, G 0 0 ≤ k → k < 12 → G 5 k = 0 ∧ G 6 k = 0) ∧ ∀ i, G 0 0 * 4 ≤ i → i < 48 → G 7 i = 0 ∧ G 8 i = 0 ∧ G 9 i = 0 ∧ G 10 i = 0
def hb (G : NB) (k : Nat) (ff : Bool) : Nat := cond ff (G 3 k) (G 4 k)
def ha (G : NB) (k : Nat) (ff : Bool) : Nat := cond ff (G 4 k) (G 3 k)
def gos (G : NB) (k : Nat) (ff : Bool) : Bool := decide (G 5 k = 0) || decide (G 5 k = cond ff 1 2)
def opn (G : NB) (k : Nat) (ff : Bool) : Bool := decide (G 6 k = 0) && gos G k ff
def why (G : NB) (k : Nat) (ff : Bool) (n : Nat) : Nat := if 0 < G 6 k then 1 else if gos G k ff = false then 2 else if hb G k ff ≠ 0 ∧ G 2 (hb G k ff) < n then 3 else if ha G k ff ≠ 0 ∧ G 1 (ha G k ff) < G 2 (ha G k ff) + n then 4 else 0
def most (G : NB) (k : Nat) (ff : Bool) (bd : Nat) : Nat := if opn G k ff = false then 0 else min (min bd (if hb G k ff = 0 then bd else G 2 (hb G k ff))) (if ha G k ff = 0 then bd else G 1 (ha G k ff) - G 2 (ha G k ff))
def mis (G : NB) (i n : Nat) : Nat := if G 8 i = 0 then 0 else (G 9 i + n) / G 8 i - G 9 i / G 8 i
def see (G : NB) (i n : Nat) : NB := setN (setN (setN G 10 i (G 10 i + mis G i n)) 9 i (G 9 i + n)) 7 i (G 7 i + (n - mis G i n))
def mvO (G : NB) (h n : Nat) : NB := if h = 0 then G else setN G 2 h (G 2 h - n)
def mvI (G : NB) (h n : Nat) : NB := if h = 0 then G else setN G 2 h (G 2 h + n)
def pas (G : NB) (k : Nat) (ff : Bool) (n : Nat) : NB := see (see (mvI (mvO G (hb G k ff) n) (ha G k ff) n) (k * 4 + cond ff 0 2) n) (k * 4 + cond ff 3 1) n
def gap (G : NB) (k : Nat) : Nat := ds (G 7 (k * 4 + 0)) (G 7 (k * 4 + 3)) + ds (G 7 (k * 4 + 1)) (G 7 (k * 4 + 2))
theorem mis_le {G : NB} {i n : Nat} : mis G i n ≤ n := by
  unfold mis
  split
  · omega
  · rename_i h
    have hp : 0 < G 8 i := by omega
    have h1 : (G 9 i + n) / G 8 i ≤ G 9 i / G 8 i + n := by
      have e : (G 9 i + n) ≤ G 9 i + G 8 i * n := by
        have : n ≤ G 8 i * n := Nat.le_mul_of_pos_left n hp
        omega
      calc (G 9 i + n) / G 8 i ≤ (G 9 i + G 8 i * n) / G 8 i := Nat.div_le_div_right e
        _ = G 9 i / G 8 i + n := Nat.add_mul_div_left _ _ hp
    omega
theorem mis_mod {sn sl n : Nat} (hp : 0 < sl) : (sn % sl + n) / sl = (sn + n) / sl - sn / sl ∧ (sn % sl + n) % sl = (sn + n) % sl := by
  have h1 : sn + n = sn % sl + n + sl * (sn / sl) := by
    have := Nat.mod_add_div sn sl
    omega
  constructor
  · rw [h1, Nat.add_mul_div_left _ _ hp, Nat.add_sub_cancel]
  · rw [h1, Nat.add_mul_mod_self_left]
