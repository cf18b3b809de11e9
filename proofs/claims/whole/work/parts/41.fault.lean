/-! the text: append, clearText, and the class's search for a fault -/
theorem nI_zz (a : Nat) : nI a + 0 = nI a := by rw [e0, nI_add, Nat.add_zero]
theorem dig_c {c : Nat} (h : c ≤ 126) : f_X3_isDigit (nI c) = decide (48 ≤ c ∧ c ≤ 57) := by
  have e : f_X3_isDigit (nI c) = f_X6_in (nI c) (nI 48) (nI 57) := rfl
  rw [e]
  apply b_ext
  rw [in_nI (by decide) (by decide), decide_eq_true_eq]
  constructor
  · rintro ⟨n, n1, n2, n3⟩
    have := (nI_eq (by omega) (by omega)).mp n3
    omega
  · intro q; exact ⟨c, q.1, q.2, rfl⟩
theorem let_c {c : Nat} (h : c ≤ 126) : f_X3_isStileLetter (nI c) = decide (65 ≤ c ∧ c ≤ 76) := by
  have e : f_X3_isStileLetter (nI c) = (if nI c < nI 65 then false else if nI 77 ≤ nI c then false else true) := rfl
  rw [e]
  by_cases a : c < 65
  · rw [if_pos (nI_lt a (by omega)), decide_eq_false (by omega)]
  · rw [if_neg (nI_nlt (by omega) (by omega))]
    by_cases b : 77 ≤ c
    · rw [if_pos (nI_le b (by omega)), decide_eq_false (by omega)]
    · rw [if_neg (nI_ge (by omega) (by omega)), decide_eq_true (by omega)]
theorem eq_c {c k : Nat} (h : c ≤ 126) (hk : k ≤ 126) : (nI c = nI k) = (c = k) := propext (nI_eq (by omega) (by omega))
theorem n104 : (104 : Int32) = nI 104 := by decide
theorem n62 : (62 : Int32) = nI 62 := by decide
theorem n60 : (60 : Int32) = nI 60 := by decide
theorem n97 : (97 : Int32) = nI 97 := by decide
theorem n114 : (114 : Int32) = nI 114 := by decide
theorem n44 : (44 : Int32) = nI 44 := by decide
theorem wb0 {c : Nat} (h : c ≤ 126) : f_X3_whereBehind 0 (nI c) = if c = 104 then 2 else if 65 ≤ c ∧ c ≤ 76 then 1 else -1 := by
  unfold f_X3_whereBehind
  rw [if_pos rfl]
  simp only [lt, let_c h, n104, eq_c h (show 104 ≤ 126 by decide), decide_eq_true_eq]
theorem wb1 {c : Nat} (h : c ≤ 126) : f_X3_whereBehind 1 (nI c) = if c = 62 ∨ c = 60 then 2 else if c = 97 ∨ c = 114 then 4 else -1 := by
  unfold f_X3_whereBehind f_X3_isWay
  rw [if_neg (by decide), if_pos rfl]
  simp only [lt, n62, n60, n97, n114, eq_c h (show 62 ≤ 126 by decide), eq_c h (show 60 ≤ 126 by decide), eq_c h (show 97 ≤ 126 by decide), eq_c h (show 114 ≤ 126 by decide)]
  by_cases a : c = 62
  · simp [a]
  · by_cases b : c = 60
    · simp [b]
    · by_cases d : c = 97
      · simp [d]
      · by_cases e : c = 114
        · simp [e]
        · simp [a, b, d, e]
theorem wb2 {c : Nat} (h : c ≤ 126) : f_X3_whereBehind 2 (nI c) = if 49 ≤ c ∧ c ≤ 57 then 3 else -1 := by
  unfold f_X3_whereBehind
  rw [if_neg (by decide), if_neg (by decide), if_pos rfl]
  simp only [lt, dig_c h, n48, eq_c h (show 48 ≤ 126 by decide), decide_eq_true_eq]
  by_cases a : 49 ≤ c ∧ c ≤ 57
  · rw [if_pos a, if_pos (by omega), if_neg (by omega)]
  · rw [if_neg a]
    by_cases b : 48 ≤ c ∧ c ≤ 57
    · rw [if_pos b, if_pos (by omega)]
    · rw [if_neg b]
theorem wb3 {c : Nat} (h : c ≤ 126) : f_X3_whereBehind 3 (nI c) = if 48 ≤ c ∧ c ≤ 57 then 4 else if c = 44 then 0 else -1 := by
  unfold f_X3_whereBehind
  rw [if_neg (by decide), if_neg (by decide), if_neg (by decide), if_pos rfl]
  simp only [lt, dig_c h, n44, eq_c h (show 44 ≤ 126 by decide), decide_eq_true_eq]
theorem wb4 {c : Nat} (h : c ≤ 126) : f_X3_whereBehind 4 (nI c) = if c = 44 then 0 else -1 := by
  unfold f_X3_whereBehind
  rw [if_neg (by decide), if_neg (by decide), if_neg (by decide), if_neg (by decide)]
  simp only [n44, eq_c h (show 44 ≤ 126 by decide)]
theorem ff_end {T : Nat → Nat} {t : Nat} {χ μ : Blk} (X : Tt T t χ μ) (n : Nat) (st : Int32) : f_X3_findFault_L4 χ (n + 1) st (nI t) = if st = 3 then some (-100005) else if st = 4 then some (-100005) else some (nI t) := by
  have := X.1
  rw [f_X3_findFault_L4, X.2.1, if_pos (nI_le (Nat.le_refl _) (by omega))]
theorem ff_step {T : Nat → Nat} {t : Nat} {χ μ : Blk} (X : Tt T t χ μ) {p : Nat} (hp : p < t) (n : Nat) (st : Int32) : f_X3_findFault_L4 χ (n + 1) st (nI p) = if f_X3_whereBehind st (nI (T p)) = -1 then some (nI p) else f_X3_findFault_L4 χ n (f_X3_whereBehind st (nI (T p))) (nI (p + 1)) := by
  have := X.1
  rw [f_X3_findFault_L4, X.2.1, if_neg (nI_ge hp (by omega)), at_k (by omega) (by decide), Option.bind_some, (X.2.2.2 p hp).2.2.1]
  simp only [lt]
  rw [nI_1]
theorem ff_bad {T : Nat → Nat} {t : Nat} {χ μ : Blk} (X : Tt T t χ μ) {p : Nat} (hp : p < t) (n : Nat) {st : Int32} (h : f_X3_whereBehind st (nI (T p)) = -1) : f_X3_findFault_L4 χ (n + 1) st (nI p) = some (nI p) := by
  rw [ff_step X hp, h, if_pos rfl]
theorem ff_go {T : Nat → Nat} {t : Nat} {χ μ : Blk} (X : Tt T t χ μ) {p : Nat} (hp : p < t) (n : Nat) {st s' : Int32} (h : f_X3_whereBehind st (nI (T p)) = s') (hs : ¬ s' = -1) : f_X3_findFault_L4 χ (n + 1) st (nI p) = f_X3_findFault_L4 χ n s' (nI (p + 1)) := by
  rw [ff_step X hp, h, if_neg hs]
/-- what the search finds behind an order that ends at e -/
def Aft (T : Nat → Nat) (t : Nat) (χ : Blk) (e : Nat) (x : Option Int32) : Prop := (e = t ∧ x = some (-100005)) ∨ (e < t ∧ T e ≠ 44 ∧ x = some (nI e)) ∨ (e < t ∧ T e = 44 ∧ ∃ n', t - (e + 1) < n' ∧ x = f_X3_findFault_L4 χ n' 0 (nI (e + 1)))
theorem ff_4 {T : Nat → Nat} {t : Nat} {χ μ : Blk} (X : Tt T t χ μ) {e n : Nat} (he : e ≤ t) (hn : t - e < n) : Aft T t χ e (f_X3_findFault_L4 χ n 4 (nI e)) := by
  obtain ⟨n, rfl⟩ : ∃ m, n = m + 1 := ⟨n - 1, by omega⟩
  by_cases q : e = t
  · subst q
    exact .inl ⟨rfl, by rw [ff_end X, if_neg (by decide), if_pos rfl]⟩
  · have ht : e < t := by omega
    have c := X.2.2.2 e ht
    by_cases g : T e = 44
    · rw [ff_go X ht n (by rw [wb4 c.2.1, if_pos g]) (by decide)]
      exact .inr (.inr ⟨ht, g, n, by omega, rfl⟩)
    · rw [ff_bad X ht n (by rw [wb4 c.2.1, if_neg g])]
      exact .inr (.inl ⟨ht, g, rfl⟩)
theorem ff_3 {T : Nat → Nat} {t : Nat} {χ μ : Blk} (X : Tt T t χ μ) {e n : Nat} (he : e ≤ t) (hn : t - e < n) (hd : isc t T 48 57 e = false) : Aft T t χ e (f_X3_findFault_L4 χ n 3 (nI e)) := by
  obtain ⟨n, rfl⟩ : ∃ m, n = m + 1 := ⟨n - 1, by omega⟩
  by_cases q : e = t
  · subst q
    exact .inl ⟨rfl, by rw [ff_end X, if_pos rfl]⟩
  · have ht : e < t := by omega
    have c := X.2.2.2 e ht
    have nd : ¬ (48 ≤ T e ∧ T e ≤ 57) := by
      intro k
      have : isc t T 48 57 e = true := by unfold isc; exact decide_eq_true ⟨ht, k⟩
      rw [hd] at this; cases this
    by_cases g : T e = 44
    · rw [ff_go X ht n (by rw [wb3 c.2.1, if_neg nd, if_pos g]) (by decide)]
      exact .inr (.inr ⟨ht, g, n, by omega, rfl⟩)
    · rw [ff_bad X ht n (by rw [wb3 c.2.1, if_neg nd, if_neg g])]
      exact .inr (.inl ⟨ht, g, rfl⟩)
theorem isc_not {t : Nat} {T : Nat → Nat} {lo hi p : Nat} (h : isc t T lo hi p = false) (hp : p < t) : ¬ (lo ≤ T p ∧ T p ≤ hi) := by
  intro k
  have : isc t T lo hi p = true := by unfold isc; exact decide_eq_true ⟨hp, k⟩
  rw [h] at this; cases this
/-- the search, at a number -/
theorem ff_num {T : Nat → Nat} {t : Nat} {χ μ : Blk} (X : Tt T t χ μ) {p n : Nat} (hp : p ≤ t) (hn : t - p < n) : ((nmE t T p).1 = true → f_X3_findFault_L4 χ n 2 (nI p) = some (nI (nmE t T p).2)) ∧ ((nmE t T p).1 = false → p < (nmE t T p).2 ∧ (nmE t T p).2 ≤ t ∧ Aft T t χ (nmE t T p).2 (f_X3_findFault_L4 χ n 2 (nI p))) := by
  obtain ⟨n, rfl⟩ : ∃ m, n = m + 1 := ⟨n - 1, by omega⟩
  unfold nmE
  cases q : isc t T 49 57 p
  · rw [if_neg ff_ne]
    refine ⟨fun _ => ?_, fun c => by cases c⟩
    by_cases z : p = t
    · subst z; rw [ff_end X, if_neg (by decide), if_neg (by decide)]
    · have ht : p < t := by omega
      have c := X.2.2.2 p ht
      exact ff_bad X ht n (by rw [wb2 c.2.1, if_neg (isc_not q ht)])
  · obtain ⟨q1, q2⟩ := isc_lt q
    have c := X.2.2.2 p q1
    rw [if_pos rfl, ff_go X q1 n (by rw [wb2 c.2.1, if_pos q2]) (by decide)]
    cases g : isc t T 48 57 (p + 1)
    · rw [if_neg ff_ne]
      exact ⟨fun c => (by cases c), fun _ => ⟨by omega, by omega, ff_3 X (by omega) (by omega) g⟩⟩
    · obtain ⟨g1, g2⟩ := isc_lt g
      have c' := X.2.2.2 (p + 1) g1
      obtain ⟨n, rfl⟩ : ∃ m, n = m + 1 := ⟨n - 1, by omega⟩
      rw [if_pos rfl, ff_go X g1 n (by rw [wb3 c'.2.1, if_pos g2]) (by decide)]
      exact ⟨fun c => (by cases c), fun _ => ⟨by omega, by omega, ff_4 X (by omega) (by omega)⟩⟩
/-- the search, at an order -/
theorem ff_ord {T : Nat → Nat} {t : Nat} {χ μ : Blk} (X : Tt T t χ μ) {p n : Nat} (hp : p ≤ t) (hn : t - p < n) : ((orE t T p).1 = true → f_X3_findFault_L4 χ n 0 (nI p) = some (nI (orE t T p).2)) ∧ ((orE t T p).1 = false → p + 1 < (orE t T p).2 ∧ (orE t T p).2 ≤ t ∧ Aft T t χ (orE t T p).2 (f_X3_findFault_L4 χ n 0 (nI p))) := by
  obtain ⟨n, rfl⟩ : ∃ m, n = m + 1 := ⟨n - 1, by omega⟩
  unfold orE
  cases q : isc t T 104 104 p
  · rw [if_neg ff_ne]
    cases g : isc t T 65 76 p
    · rw [if_neg ff_ne]
      refine ⟨fun _ => ?_, fun c => by cases c⟩
      by_cases z : p = t
      · subst z; rw [ff_end X, if_neg (by decide), if_neg (by decide)]
      · have ht : p < t := by omega
        have c := X.2.2.2 p ht
        have nq := isc_not q ht
        exact ff_bad X ht n (by rw [wb0 c.2.1, if_neg (show ¬ T p = 104 by omega), if_neg (isc_not g ht)])
    · obtain ⟨g1, g2⟩ := isc_lt g
      have c := X.2.2.2 p g1
      have nq := isc_not q g1
      rw [if_pos rfl, ff_go X g1 n (by rw [wb0 c.2.1, if_neg (show ¬ T p = 104 by omega), if_pos g2]) (by decide)]
      obtain ⟨n, rfl⟩ : ∃ m, n = m + 1 := ⟨n - 1, by omega⟩
      by_cases w : isc t T 62 62 (p + 1) = true ∨ isc t T 60 60 (p + 1) = true
      · rw [if_pos w]
        have h1 : p + 1 < t := by rcases w with w | w <;> exact (isc_lt w).1
        have hc : T (p + 1) = 62 ∨ T (p + 1) = 60 := by
          rcases w with w | w
          · have := (isc_lt w).2; omega
          · have := (isc_lt w).2; omega
        have c' := X.2.2.2 (p + 1) h1
        rw [ff_go X h1 n (by rw [wb1 c'.2.1, if_pos hc]) (by decide)]
        have r := ff_num X (p := p + 2) (n := n) (by omega) (by omega)
        refine ⟨r.1, fun h => ?_⟩
        have r2 := r.2 h
        exact ⟨by omega, r2.2.1, r2.2.2⟩
      · rw [if_neg w]
        by_cases v : isc t T 97 97 (p + 1) = true ∨ isc t T 114 114 (p + 1) = true
        · rw [if_pos v]
          have h1 : p + 1 < t := by rcases v with v | v <;> exact (isc_lt v).1
          have hc : T (p + 1) = 97 ∨ T (p + 1) = 114 := by
            rcases v with v | v
            · have := (isc_lt v).2; omega
            · have := (isc_lt v).2; omega
          have c' := X.2.2.2 (p + 1) h1
          rw [ff_go X h1 n (by rw [wb1 c'.2.1, if_neg (show ¬ (T (p + 1) = 62 ∨ T (p + 1) = 60) by omega), if_pos hc]) (by decide)]
          exact ⟨fun c => (by cases c), fun _ => ⟨Nat.lt_succ_self _, by omega, ff_4 X (by omega) (by omega)⟩⟩
        · rw [if_neg v]
          refine ⟨fun _ => ?_, fun c => by cases c⟩
          by_cases z : p + 1 = t
          · rw [z, ff_end X, if_neg (by decide), if_neg (by decide)]
          · have h1 : p + 1 < t := by omega
            have c' := X.2.2.2 (p + 1) h1
            have n1 := isc_not (lo := 62) (hi := 62) (Bool.eq_false_iff.mpr fun k => w (.inl k)) h1
            have n2 := isc_not (lo := 60) (hi := 60) (Bool.eq_false_iff.mpr fun k => w (.inr k)) h1
            have n3 := isc_not (lo := 97) (hi := 97) (Bool.eq_false_iff.mpr fun k => v (.inl k)) h1
            have n4 := isc_not (lo := 114) (hi := 114) (Bool.eq_false_iff.mpr fun k => v (.inr k)) h1
            exact ff_bad X h1 n (by rw [wb1 c'.2.1, if_neg (show ¬ (T (p + 1) = 62 ∨ T (p + 1) = 60) by omega), if_neg (show ¬ (T (p + 1) = 97 ∨ T (p + 1) = 114) by omega)])
  · obtain ⟨q1, q2⟩ := isc_lt q
    have c := X.2.2.2 p q1
    rw [if_pos rfl, ff_go X q1 n (by rw [wb0 c.2.1, if_pos (show T p = 104 by omega)]) (by decide)]
    have r := ff_num X (p := p + 1) (n := n) (by omega) (by omega)
    refine ⟨r.1, fun h => ?_⟩
    have r2 := r.2 h
    exact ⟨by omega, r2.2.1, r2.2.2⟩
/-- the text is a row of orders from p on -/
def vld (t : Nat) (T : Nat → Nat) : Nat → Nat → Prop
  | 0, _ => False
  | n + 1, p => (orE t T p).1 = false ∧ p + 1 < (orE t T p).2 ∧ ((orE t T p).2 = t ∨ ((orE t T p).2 < t ∧ T (orE t T p).2 = 44 ∧ vld t T n ((orE t T p).2 + 1)))
theorem Tt.of {T : Nat → Nat} {t : Nat} {χ μ μ' : Blk} (X : Tt T t χ μ) (K : Kp μ μ') : Tt T t χ μ' :=
  ⟨X.1, X.2.1, by rw [K.2 2 (by decide)]; exact X.2.2.1, fun i hi => by rw [K.1 2 (by decide)]; exact X.2.2.2 i hi⟩
theorem both_fault {T : Nat → Nat} {t : Nat} {χ : Blk} : ∀ (d p n m : Nat) (μ : Blk), t - p ≤ d → p ≤ t → t - p < n → t - p + 1 < m → Tt T t χ μ → Rd T t μ p 0 →
    ∃ r μ', f_X3_findFault_L4 χ n 0 (nI p) = some r ∧ f_X6_faultOf_L12 m μ 1 = some (r, μ') ∧ Kp μ μ' ∧ (r = -100005 → vld t T (d + 1) p ∧ μ' 0 4 = 0) ∧ (¬ r = -100005 → ∃ e : Nat, e ≤ 60 ∧ r = nI e) := by
  intro d
  induction d with
  | zero =>
    intro p n m μ hd hp hn hm X R
    have t60 := X.1
    have ep : p = t := by omega
    subst ep
    obtain ⟨m, rfl⟩ : ∃ r, m = r + 2 := ⟨m - 2, by omega⟩
    have ff := ff_ord X (Nat.le_refl _) hn
    obtain ⟨μ1, a1, a2, a3, a4⟩ := mo_order R (by omega)
    have w : (orE p T p).1 = true := by
      cases h : (orE p T p).1
      · have := (ff.2 h).1; have := (ff.2 h).2.1; omega
      · rfl
    have e : (orE p T p).2 = p := by
      have n1 : isc p T 104 104 p = false := decide_eq_false (fun c => Nat.lt_irrefl _ c.1)
      have n2 : isc p T 65 76 p = false := decide_eq_false (fun c => Nat.lt_irrefl _ c.1)
      unfold orE
      rw [n1, n2, if_neg ff_ne, if_neg ff_ne]
    rw [w, e] at a3
    have a3' : Rd T p μ1 p 1 := a3
    rw [ff.1 w, e, f_X6_faultOf_L12, if_neg (by decide), a1, Option.bind_some, isNow1 a3' 44 44, Option.bind_some, if_neg ff_ne]
    simp only [lt]
    rw [a3'.2.2.1, nI_zz p]
    have R2 : Rd T p (up μ1 0 3 (nI p)) p 1 := a3'.at
    rw [show b2i false = 0 from rfl, f_X6_faultOf_L12, if_pos rfl, if_neg (by rw [R2.2.2.2.1]; decide), R2.2.2.1]
    refine ⟨nI p, _, rfl, rfl, a2.up (by decide), fun c => ?_, fun _ => ⟨p, t60, rfl⟩⟩
    have c2 : nI p = -100005 := c
    have := congrArg Int32.toInt c2
    rw [nI_toInt (by omega), show (-100005 : Int32).toInt = -100005 by decide] at this
    omega
  | succ d ih =>
    intro p n m μ hd hp hn hm X R
    have t60 := X.1
    obtain ⟨m, rfl⟩ : ∃ r, m = r + 2 := ⟨m - 2, by omega⟩
    have ff := ff_ord X hp hn
    obtain ⟨μ1, a1, a2, a3, a4⟩ := mo_order R (by omega)
    have small : ∀ e : Nat, e ≤ 60 → ¬ nI e = -100005 := by
      intro e he c
      have := congrArg Int32.toInt c
      rw [nI_toInt (by omega), show (-100005 : Int32).toInt = -100005 by decide] at this
      omega
    rw [f_X6_faultOf_L12, if_neg (by decide), a1, Option.bind_some]
    cases w : (orE t T p).1
    · obtain ⟨f1, f2, f3⟩ := ff.2 w
      rw [w] at a3
      have a3' : Rd T t μ1 (orE t T p).2 0 := a3
      have i44 : f_X6_isNow μ1 44 44 = some (isc t T 44 44 (orE t T p).2) := isNow a3' (by omega) 44 44 (by decide) (by decide)
      rw [i44, Option.bind_some]
      generalize hE : (orE t T p).2 = e at *
      rcases f3 with ⟨g1, g2⟩ | ⟨g1, g2, g3⟩ | ⟨g1, g2, n', g3, g4⟩
      · have nc : isc t T 44 44 e = false := decide_eq_false (fun c => by omega)
        rw [nc, if_neg ff_ne]
        simp only [lt]
        rw [a3'.2.2.1, nI_zz e]
        have R2 : Rd T t (up μ1 0 3 (nI e)) e 0 := a3'.at
        rw [show b2i false = 0 from rfl, f_X6_faultOf_L12, if_pos rfl, if_pos R2.2.2.2.1, R2.2.1, R2.2.2.1, if_pos (nI_le (by omega) (by omega)), g2]
        exact ⟨_, _, rfl, rfl, a2.up (by decide), fun _ => ⟨⟨w, by rw [hE]; exact f1, .inl (by rw [hE]; exact g1)⟩, R2.2.2.2.1⟩, fun c => absurd rfl c⟩
      · have nc : isc t T 44 44 e = false := decide_eq_false (fun c => by omega)
        rw [nc, if_neg ff_ne]
        simp only [lt]
        rw [a3'.2.2.1, nI_zz e]
        have R2 : Rd T t (up μ1 0 3 (nI e)) e 0 := a3'.at
        rw [show b2i false = 0 from rfl, f_X6_faultOf_L12, if_pos rfl, if_pos R2.2.2.2.1, R2.2.1, R2.2.2.1, if_neg (nI_ge g1 (by omega)), g3]
        exact ⟨_, _, rfl, rfl, a2.up (by decide), fun c => absurd c (small e (by omega)), fun _ => ⟨e, by omega, rfl⟩⟩
      · have yc : isc t T 44 44 e = true := decide_eq_true ⟨g1, by omega, by omega⟩
        rw [yc, if_pos rfl]
        simp only [lt]
        rw [a3'.2.2.1, nI_1, g4, show b2i true = 1 from rfl]
        have R2 : Rd T t (up μ1 0 3 (nI (e + 1))) (e + 1) 0 := a3'.at
        have K2 : Kp μ (up μ1 0 3 (nI (e + 1))) := a2.up (by decide)
        obtain ⟨r, μ', h1, h2, h3, h4, h5⟩ := ih (e + 1) n' (m + 1) (up μ1 0 3 (nI (e + 1))) (by omega) (by omega) g3 (by omega) (X.of K2) R2
        exact ⟨r, μ', h1, h2, K2.tr h3, fun c => ⟨⟨w, by rw [hE]; exact f1, .inr (by rw [hE]; exact ⟨g1, g2, (h4 c).1⟩)⟩, (h4 c).2⟩, h5⟩
    · rw [w] at a3
      have a3' : Rd T t μ1 (orE t T p).2 1 := a3
      rw [isNow1 a3' 44 44, Option.bind_some, if_neg ff_ne, ff.1 w]
      simp only [lt]
      have e60 : (orE t T p).2 ≤ 60 := by
        unfold orE at w ⊢
        cases q : isc t T 104 104 p
        · rw [q] at w
          rw [if_neg ff_ne] at w ⊢
          cases g : isc t T 65 76 p
          · rw [if_neg ff_ne]; show p ≤ 60; omega
          · have g1 := (isc_lt g).1
            rw [if_pos rfl]
            by_cases y : isc t T 62 62 (p + 1) = true ∨ isc t T 60 60 (p + 1) = true
            · rw [if_pos y]
              have h1 : p + 1 < t := by rcases y with y | y <;> exact (isc_lt y).1
              unfold nmE
              cases k : isc t T 49 57 (p + 2)
              · rw [if_neg ff_ne]; show p + 2 ≤ 60; omega
              · have k1 := (isc_lt k).1
                rw [if_pos rfl]
                cases l : isc t T 48 57 (p + 2 + 1)
                · rw [if_neg ff_ne]; show p + 2 + 1 ≤ 60; omega
                · have l1 := (isc_lt l).1
                  rw [if_pos rfl]; show p + 2 + 2 ≤ 60; omega
            · rw [if_neg y]
              by_cases y2 : isc t T 97 97 (p + 1) = true ∨ isc t T 114 114 (p + 1) = true
              · rw [if_pos y2]
                have h1 : p + 1 < t := by rcases y2 with y2 | y2 <;> exact (isc_lt y2).1
                show p + 2 ≤ 60; omega
              · rw [if_neg y2]; show p + 1 ≤ 60; omega
        · have q1 := (isc_lt q).1
          rw [if_pos rfl]
          unfold nmE
          cases k : isc t T 49 57 (p + 1)
          · rw [if_neg ff_ne]; show p + 1 ≤ 60; omega
          · have k1 := (isc_lt k).1
            rw [if_pos rfl]
            cases l : isc t T 48 57 (p + 1 + 1)
            · rw [if_neg ff_ne]; show p + 1 + 1 ≤ 60; omega
            · have l1 := (isc_lt l).1
              rw [if_pos rfl]; show p + 1 + 2 ≤ 60; omega
      generalize (orE t T p).2 = e at *
      rw [a3'.2.2.1, nI_zz e]
      have R2 : Rd T t (up μ1 0 3 (nI e)) e 1 := a3'.at
      rw [show b2i false = 0 from rfl, f_X6_faultOf_L12, if_pos rfl, if_neg (by rw [R2.2.2.2.1]; decide), R2.2.2.1]
      exact ⟨nI e, _, rfl, rfl, a2.up (by decide), fun c => absurd c (small e e60), fun _ => ⟨e, e60, rfl⟩⟩
