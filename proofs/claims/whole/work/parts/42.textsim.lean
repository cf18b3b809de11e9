/-! class and reference side by side: append, clearText, fault -/
theorem i2c_tab : ∀ c, c < 127 → vp_nar .char (i2cF (nI c)) = nI c := by decide +kernel
theorem St.txt {N : Nat} {G : NB} {z : Nat} {H : Nat → NB} {hs : Int32} {n0 n1 : Blk} {ζ : Row} {η : Nat → Blk} {χ μ : Blk} (S : St N G z H hs n0 n1 ζ η χ μ) {M : Nat} {χ' μ' : Blk} (h : N ≤ M) (h2 : M ≤ 536870912) (h1 : μ' 1 = μ 1) (h00 : μ' 0 0 = μ 0 0) (h01 : μ' 0 1 = μ 0 1) (X : Tx χ' μ') : St M G z H hs n0 n1 ζ η χ' μ' := by
  have U := S.mono h h2
  refine ⟨U.wf, U.cl, by rw [h1]; exact U.mo, by rw [h1]; exact U.hi, by rw [h00]; exact U.hz, by rw [h1, h01]; exact U.sv, X⟩
theorem sim_clear {N : Nat} {G : NB} {z : Nat} {H : Nat → NB} {hs : Int32} {n0 n1 : Blk} {ζ : Row} {η : Nat → Blk} {χ μ : Blk} (S : St N G z H hs n0 n1 ζ η χ μ) (hN : N + 600000 ≤ 536870912) (n2 : Blk) (δ : Row) : ∃ r χ' μ', f_X5_clearText hs n0 n1 n2 ζ η δ χ = (r, χ') ∧ f_X6_clearText μ = (r, μ') ∧ Inv (N + 500000) hs n0 n1 ζ η χ' μ' := by
  obtain ⟨t, t1, t2, t3, t4⟩ := S.tx
  refine ⟨nI t, _, _, ?_, ?_, _, _, _, S.txt (χ' := up χ 0 0 0) (μ' := up μ 0 2 0) (by omega) (by omega) ?_ ?_ ?_ ⟨0, by omega, ?_, ?_, fun i hi => absurd hi (Nat.not_lt_zero _)⟩⟩
  · unfold f_X5_clearText; simp only [lt]; rw [t2]
  · unfold f_X6_clearText; simp only [lt]; rw [t3]
  · funext j; rw [up_app, if_neg (by simp)]
  · rw [up_app, if_neg (by decide)]
  · rw [up_app, if_neg (by decide)]
  · rw [up_app, if_pos ⟨rfl, rfl⟩, e0]
  · rw [up_app, if_pos ⟨rfl, rfl⟩, e0]
theorem sim_append {N : Nat} {G : NB} {z : Nat} {H : Nat → NB} {hs : Int32} {n0 n1 : Blk} {ζ : Row} {η : Nat → Blk} {χ μ : Blk} (S : St N G z H hs n0 n1 ζ η χ μ) (hN : N + 600000 ≤ 536870912) (n2 : Blk) (δ : Row) (x1 : Int32) : ∃ r χ' μ', f_X5_append hs n0 n1 n2 ζ η δ χ x1 = some (r, χ') ∧ f_X6_append μ x1 = some (r, μ') ∧ Inv (N + 500000) hs n0 n1 ζ η χ' μ' := by
  have I : Inv (N + 500000) hs n0 n1 ζ η χ μ := ⟨_, _, _, S.mono (by omega) (by omega)⟩
  obtain ⟨t, t1, t2, t3, t4⟩ := S.tx
  unfold f_X5_append f_X6_append
  simp only [lt]
  by_cases g : f_X6_in x1 32 126 = true
  · rw [if_pos g]
    obtain ⟨c, c1, c2, rfl⟩ := (in_nI (a := 32) (b := 126) (by decide) (by decide)).mp g
    rw [if_neg (show ¬ nI c < 32 from nI_nlt (a := c) (b := 32) c1 (by omega)), if_pos (show nI c ≤ 126 from nI_le (b := 126) c2 (by decide)), t2, t3]
    by_cases q : t = 60
    · subst q
      rw [if_neg (by decide), if_pos (by decide)]
      exact ⟨_, _, _, rfl, rfl, I⟩
    · rw [if_pos (show nI t < 60 from nI_lt (b := 60) (by omega) (by decide)), if_neg (show ¬ nI t = 60 from fun k => q ((nI_eq (b := 60) (by omega) (by decide)).mp k)), ib_nI (by omega) (by decide), if_pos rfl, nI_clamp (by omega), i2c_tab c (by omega)]
      unfold f_X3_addCharacter
      rw [t2, put_k (by omega) (by decide), Option.bind_some]
      simp only [lt]
      have a0 : upR χ 1 (upd (χ 1) t (nI c)) 0 0 = nI t := by rw [upR_app, if_neg (by decide)]; exact t2
      have b0 : upR μ 2 (upd (μ 2) t (nI c)) 0 2 = nI t := by rw [upR_app, if_neg (by decide)]; exact t3
      rw [a0, b0, nI_1, Option.bind_some]
      have a1 : up (upR χ 1 (upd (χ 1) t (nI c))) 0 0 (nI (t + 1)) 0 0 = nI (t + 1) := by rw [up_app, if_pos ⟨rfl, rfl⟩]
      have b1 : up (upR μ 2 (upd (μ 2) t (nI c))) 0 2 (nI (t + 1)) 0 2 = nI (t + 1) := by rw [up_app, if_pos ⟨rfl, rfl⟩]
      rw [a1, b1]
      refine ⟨_, _, _, rfl, rfl, _, _, _, S.txt (by omega) (by omega) ?_ ?_ ?_ ⟨t + 1, by omega, a1, b1, fun i hi => ?_⟩⟩
      · funext j; rw [up_app, if_neg (by simp), upR_app, if_neg (by decide)]
      · rw [up_app, if_neg (by decide), upR_app, if_neg (by decide)]
      · rw [up_app, if_neg (by decide), upR_app, if_neg (by decide)]
      · have y1 : up (upR χ 1 (upd (χ 1) t (nI c))) 0 0 (nI (t + 1)) 1 i = if i = t then nI c else χ 1 i := by
          rw [up_app, if_neg (by simp), upR_app, if_pos rfl, upd_app]
        have y2 : up (upR μ 2 (upd (μ 2) t (nI c))) 0 2 (nI (t + 1)) 2 i = if i = t then nI c else μ 2 i := by
          rw [up_app, if_neg (by simp), upR_app, if_pos rfl, upd_app]
        rw [y1, y2]
        by_cases e : i = t
        · rw [if_pos e, if_pos e]; exact ⟨c, c1, c2, rfl, rfl⟩
        · rw [if_neg e, if_neg e]; exact t4 i (by omega)
  · rw [if_neg g]
    rcases in_cases g with q | ⟨q1, q2⟩
    · rw [if_pos q]; exact ⟨_, _, _, rfl, rfl, I⟩
    · rw [if_neg q1, if_neg q2]; exact ⟨_, _, _, rfl, rfl, I⟩
theorem St.kp {N : Nat} {G : NB} {z : Nat} {H : Nat → NB} {hs : Int32} {n0 n1 : Blk} {ζ : Row} {η : Nat → Blk} {χ μ : Blk} (S : St N G z H hs n0 n1 ζ η χ μ) {M : Nat} {χ' μ' : Blk} (h : N ≤ M) (h2 : M ≤ 536870912) (K : Kp μ μ') (x0 : χ' 0 0 = χ 0 0) (x1 : χ' 1 = χ 1) : St M G z H hs n0 n1 ζ η χ' μ' :=
  S.chg h h2 (wf_mono S.wf h h2) S.cl (by rw [K.1 1 (by decide)]; exact S.mo) K.2 (K.1 2 (by decide)) (fun j _ _ => by rw [K.1 1 (by decide)]) x0 x1
/-- both look for a fault -/
theorem St.flt {N : Nat} {G : NB} {z : Nat} {H : Nat → NB} {hs : Int32} {n0 n1 : Blk} {ζ : Row} {η : Nat → Blk} {χ μ : Blk} (S : St N G z H hs n0 n1 ζ η χ μ) : ∃ T t r μ', Tt T t χ μ' ∧ f_X3_findFault χ = some r ∧ f_X6_faultOf μ = some (r, μ') ∧ Kp μ μ' ∧ (r = -100005 → vld t T (t + 1) 0 ∧ μ' 0 4 = 0) := by
  obtain ⟨T, t, X⟩ := tx_tt S.tx
  have t60 := X.1
  have R0 : Rd T t (up (up μ 0 3 0) 0 4 0) 0 0 := by
    refine Rd.wr (w := up μ 0 3 0 0 4) (μ := up μ 0 3 0) ⟨t60, ?_, ?_, ?_, fun i hi => ?_⟩
    · rw [up_app, if_neg (by decide)]; exact X.2.2.1
    · rw [up_app, if_pos ⟨rfl, rfl⟩, e0]
    · rfl
    · rw [up_app, if_neg (by simp)]; exact ⟨(X.2.2.2 i hi).1, (X.2.2.2 i hi).2.1, (X.2.2.2 i hi).2.2.2⟩
  have K0 : Kp μ (up (up μ 0 3 0) 0 4 0) := (Kp.rf.up (by decide)).up (by decide)
  obtain ⟨r, μ', h1, h2, h3, h4, h5⟩ := both_fault t 0 FU FU _ (by omega) (by omega) (FU_big (by omega)) (FU_big (by omega)) (X.of K0) R0
  rw [← e0] at h1
  exact ⟨T, t, r, μ', (X.of K0).of h3, h1, h2, K0.tr h3, h4⟩
theorem sim_fault {N : Nat} {G : NB} {z : Nat} {H : Nat → NB} {hs : Int32} {n0 n1 : Blk} {ζ : Row} {η : Nat → Blk} {χ μ : Blk} (S : St N G z H hs n0 n1 ζ η χ μ) (hN : N + 600000 ≤ 536870912) (n2 : Blk) (δ : Row) : ∃ r μ', f_X5_fault hs n0 n1 n2 ζ η δ χ = some r ∧ f_X6_fault μ = some (r, μ') ∧ Inv (N + 500000) hs n0 n1 ζ η χ μ' := by
  obtain ⟨T, t, r, μ', X, h1, h2, h3, h4⟩ := S.flt
  unfold f_X5_fault f_X6_fault
  rw [h1, h2]
  exact ⟨_, _, rfl, rfl, _, _, _, S.kp (by omega) (by omega) h3 rfl rfl⟩
