/-! the law's own small methods: apart, acts, cell -/
theorem c_L_apart (l : Launch) (g : Gl) {p r : Nat} (hp : p < 2 ^ 31) (hr : r < 2 ^ 31) : Ok l g yL_apart cL_apart 2 (some .int) 0 0 [.int (nI p), .int (nI r)] [] (some (.int (nI (ds p r)))) [] := by
  refine Ok.of RL (by decide) rfl (Nat.le_of_ble_eq_true rfl) (fun x hl hg X F => ?_)
  subst hg; subst hl
  show V x [] [(0, .int (nI p)), (1, .int (nI r))] [] 0
  refine v_iload_n X (pc := 0) dL_apart_0 rfl 0 rfl ?_
  refine v_iload_n X (pc := 1) dL_apart_1 rfl 1 rfl ?_
  refine v_icmple X (pc := 2) (tgt := 11) dL_apart_2 (by decide) (fun cc => ?_) (fun cc => ?_)
  · skip
    refine v_iload_n X (pc := 11) dL_apart_11 rfl 1 rfl ?_
    refine v_iload_n X (pc := 12) dL_apart_12 rfl 0 rfl ?_
    refine v_isub X (pc := 13) dL_apart_13 ?_
    refine v_top (b := nI (ds p r)) (by have q := (nI_leI hp hr).mp cc; rw [nI_sub q]; congr 1; unfold ds; omega) ?_
    exact v_iret X (pc := 14) F dL_apart_14
  · skip
    refine v_iload_n X (pc := 5) dL_apart_5 rfl 0 rfl ?_
    refine v_iload_n X (pc := 6) dL_apart_6 rfl 1 rfl ?_
    refine v_isub X (pc := 7) dL_apart_7 ?_
    refine v_goto X (pc := 8) (tgt := 14) dL_apart_8 (by decide) ?_
    refine v_top (b := nI (ds p r)) (by have q : r ≤ p := by { by_cases t : p ≤ r; exact absurd ((nI_leI hp hr).mpr t) cc; omega }; rw [nI_sub q]; congr 1; unfold ds; omega) ?_
    exact v_iret X (pc := 14) F dL_apart_14
theorem cw_L_apart : CwB yL_apart cL_apart 2 (some .int) 2 := ⟨q_531, q_13, by decide, by decide, by decide +kernel⟩
theorem Don.weak {N : Nat} {G : NB} {z : Nat} {H : Nat → NB} {P : Option NB} {hs : Int32} {n0 n1 : Blk} {ζ : Row} {η : Nat → Blk} {E E' : Int32 → NB → Prop} {r : Int32} {n0' : Blk} {ζ' : Row} {η' : Nat → Blk} (h : ∀ r G', E r G' → E' r G') (D : Don N G z H P hs n0 n1 ζ η E r n0' ζ' η') : Don N G z H P hs n0 n1 ζ η E' r n0' ζ' η' := by
  rcases D with d | ⟨d1, G', d2, d3⟩
  · exact .inl d
  · exact .inr ⟨d1, G', h _ _ d2, d3⟩
/-- what an action tells: an audit, a pass -/
def EA (G : NB) (Y : Nat) (r : Int32) (G' : NB) : Prop := (Y % 16 = 5 → Y / 16 % 9 < G 0 0 ∧ r = nI (gap G (Y / 16 % 9)) ∧ G' 0 0 = G 0 0 ∧ gap G' (Y / 16 % 9) = 0) ∧ (10 ≤ Y % 16 → Y / 16 % 9 < G' 0 0 ∧ r = nI (gap G' (Y / 16 % 9)))
