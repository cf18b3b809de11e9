def rem5 (v : Int32) : Int32 := v - v / 5 * 5
def upN (η : Nat → Blk) (j : Nat) (σ : Blk) : Nat → Blk := fun i => cond (Nat.beq i j) σ (η i)
def f_X2_keep (h : Row) (η : Nat → Blk) (σ : Blk) : Option (Row × (Nat → Blk)) :=
  if ib (rem5 (h 0 + h 1)) 5 = true then (f_X4_copyFrom (η (rem5 (h 0 + h 1)).toNatClampNeg) σ).bind fun k => (if 5 ≤ h 1 then some (upd h 0 (rem5 (h 0 + 1)), upN η (rem5 (h 0 + h 1)).toNatClampNeg k) else some (upd h 1 (h 1 + 1), upN η (rem5 (h 0 + h 1)).toNatClampNeg k)) else none
def f_X2_takeLatest (h : Row) (η : Nat → Blk) (σ : Blk) : Option (Row × Blk) :=
  if h 1 ≤ 0 then some (h, σ) else if ib (rem5 (h 0 + (h 1 - 1))) 5 = true then (f_X4_copyFrom σ (η (rem5 (h 0 + (h 1 - 1))).toNatClampNeg)).bind fun k => some (upd h 1 (h 1 - 1), k) else none

theorem ib_nlt {i : Int32} {n : Nat} (h : ib i n = true) : ¬ i < 0 := by
  rw [Int32.lt_iff_toInt_lt, Int32.toInt_zero]
  have := ib_iff.mp h
  omega
theorem ib_nge {i : Int32} {n : Nat} (h : ib i n = true) (hn : n < 2 ^ 31) : ¬ nI n ≤ i := by
  rw [Int32.le_iff_toInt_le, nI_toInt hn]
  have := ib_iff.mp h
  omega
theorem ib_lt {i : Int32} {n : Nat} (h : ib i n = true) : i.toNatClampNeg < n := by
  have h1 := ib_iff.mp h
  have h2 : (i.toNatClampNeg : Int) = i.toInt := by
    rw [← Int32.toNat_toInt]
    omega
  omega
theorem c_X2_stateAt (l : Launch) (g : Gl) (a : Nat → Nat) (c : Nat → Nat → Nat) (ζ : Row) (η : Nat → Blk) (x1 : Int32) (hj : ib x1 5 = true) : Ok l g yX2_stateAt cX2_stateAt 2 (Option.some (FieldType.object "HallStiles$State")) 0 0 [.ref (a 0), .int x1] (wHi g a c ζ η) (some (.ref (c (Int32.toNatClampNeg x1) 0))) (wHi g a c ζ η) := by
  refine Ok.of RX2 (by decide) rfl (Nat.le_of_ble_eq_true rfl) (fun x hl hg X F => ?_)
  subst hg; subst hl
  show V x (wHi x.g a c ζ η) [(0, .ref (a 0)), (1, .int x1)] [] 0
  refine v_iload_n X (pc := 0) dX2_stateAt_0 rfl 1 rfl ?_
  refine v_iflt X (pc := 1) (tgt := 22) dX2_stateAt_1 (by decide) (fun c => absurd c (ib_nlt hj)) (fun _ => ?_)
  refine v_iload_n X (pc := 4) dX2_stateAt_4 rfl 1 rfl ?_
  refine v_aload_n X (pc := 5) dX2_stateAt_5 rfl 0 rfl ?_
  refine v_get X (pc := 6) (v := .ref (a 1)) uw2 0 rfl rfl 0 (by decide) q_114 rfl rfl dX2_stateAt_6 ?_
  refine v_alenR X (pc := 9) 1 rfl dX2_stateAt_9 ?_
  refine v_icmpge X (pc := 10) (tgt := 22) dX2_stateAt_10 (by decide) (fun c => absurd c (ib_nge hj (by decide))) (fun _ => ?_)
  refine v_aload_n X (pc := 13) dX2_stateAt_13 rfl 0 rfl ?_
  refine v_get X (pc := 14) (v := .ref (a 1)) uw2 0 rfl rfl 0 (by decide) q_114 rfl rfl dX2_stateAt_14 ?_
  refine v_iload_n X (pc := 17) dX2_stateAt_17 rfl 1 rfl ?_
  refine v_aldq X (pc := 18) 1 rfl (ib_in hj) dX2_stateAt_18 ?_
  show V x (wHi x.g a c ζ η) [(0, .ref (a 0)), (1, .int x1)] [.ref (c (Int32.toNatClampNeg x1) 0)] 19
  refine v_goto X (pc := 19) (tgt := 23) dX2_stateAt_19 (by decide) ?_
  exact v_aret X (pc := 23) F (Or.inr ⟨_, rfl⟩) dX2_stateAt_23
theorem cw_X2_stateAt : CwB yX2_stateAt cX2_stateAt 2 (Option.some (FieldType.object "HallStiles$State")) 1 := ⟨q_195, q_17, by decide, by decide, by decide +kernel⟩
set_option maxHeartbeats 4000000 in
set_option maxRecDepth 100000 in
theorem c_X2_keep (l : Launch) (g : Gl) (a : Nat → Nat) (c : Nat → Nat → Nat) (a2 : Nat → Nat) (ζ : Row) (η : Nat → Blk) (σ : Blk) {res : Row × (Nat → Blk)} (h : f_X2_keep ζ η σ = some res) : Ok l g yX2_keep cX2_keep 3 (Option.none : Option FieldType) 4 90 [.ref (a 0), .ref (a2 0)] (wHi g a c ζ η ++ wSt g a2 σ) none (wHi g a c res.1 res.2 ++ wSt g a2 σ) := by
  unfold f_X2_keep at h
  obtain ⟨hj, h⟩ := og h
  obtain ⟨k, ek, h⟩ := ob h
  refine Ok.of RX2 (by decide) rfl (Nat.le_of_ble_eq_true rfl) (fun x hl hg X F => ?_)
  subst hg; subst hl
  show V x (wHi x.g a c ζ η ++ wSt x.g a2 σ) [(0, .ref (a 0)), (1, .ref (a2 0))] [] 0
  refine v_aload_n X (pc := 0) dX2_keep_0 rfl 0 rfl ?_
  refine v_aload_n X (pc := 1) dX2_keep_1 rfl 0 rfl ?_
  refine v_get X (pc := 2) (v := .int (ζ 0)) uw2 0 rfl rfl 1 (by decide) q_115 rfl rfl dX2_keep_2 ?_
  refine v_aload_n X (pc := 5) dX2_keep_5 rfl 0 rfl ?_
  refine v_get X (pc := 6) (v := .int (ζ 1)) uw2 0 rfl rfl 2 (by decide) q_116 rfl rfl dX2_keep_6 ?_
  refine v_iadd X (pc := 9) dX2_keep_9 ?_
  refine v_iconst X (pc := 10) (v := 5) dX2_keep_10 (by decide) ?_
  refine v_irem X (pc := 11) dX2_keep_11 (by decide) ?_
  refine v_callV X (pc := 12) (st1 := [.ref (c (Int32.toNatClampNeg (rem5 (ζ 0 + ζ 1))) 0)]) (w' := (wHi x.g a c ζ η ++ wSt x.g a2 σ)) [.int (rem5 (ζ 0 + ζ 1))] [] (c_X2_stateAt x.l x.g a c ζ η (rem5 (ζ 0 + ζ 1)) hj) rfl rfl cw_X2_stateAt q_192 q_194 q_0 ⟨by decide, by decide⟩ 0 2 rfl rfl rfl (Fr.of [0, 1, 2, 3, 4, 5, 6, 7, 8, 9, 10, 11, 12, 13, 14, 15, 16, 17, 18, 19, 20, 21, 22, 23, 24, 25, 26, 27, 28, 29, 30, 31, 32, 33, 34, 35, 36, 37, 38, 39, 40, 41, 42, 43, 44, 45, 46, 47, 48, 49, 50, 51, 52, 53, 54, 55, 56, 57, 58, 59, 60, 61] rfl rfl rfl rfl rfl) rfl (Nat.le_of_ble_eq_true rfl) dX2_keep_12 ?_
  have hj5 := ib_lt hj
  generalize Int32.toNatClampNeg (rem5 (ζ 0 + ζ 1)) = j at ek h hj5 ⊢
  refine v_astore_n X (pc := 15) (L2 := [(2, .ref (c j 0)), (0, .ref (a 0)), (1, .ref (a2 0))]) dX2_keep_15 rfl (by decide) rfl ?_
  refine v_aload_n X (pc := 16) dX2_keep_16 rfl 0 rfl ?_
  refine v_ifnull X (pc := 17) dX2_keep_17 ?_
  refine v_aload_n X (pc := 20) dX2_keep_20 rfl 0 rfl ?_
  refine v_aload_n X (pc := 21) dX2_keep_21 rfl 2 rfl ?_
  have call : V x (wHi x.g a c ζ (upN η j k) ++ wSt x.g a2 σ) [(2, .ref (c j 0)), (0, .ref (a 0)), (1, .ref (a2 0))] [] 25 → V x (wHi x.g a c ζ η ++ wSt x.g a2 σ) [(2, .ref (c j 0)), (0, .ref (a 0)), (1, .ref (a2 0))] [.ref (a2 0), .ref (c j 0)] 22 := by
    intro kk
    have hh : j = 0 ∨ j = 1 ∨ j = 2 ∨ j = 3 ∨ j = 4 := by omega
    rcases hh with rfl | rfl | rfl | rfl | rfl
    · exact v_callV X (pc := 22) (st1 := []) (w' := (wHi x.g a c ζ (upN η 0 k) ++ wSt x.g a2 σ)) [.ref (a2 0)] [] (c_X4_copyFrom x.l x.g (c 0) a2 (η 0) σ ek) rfl rfl cw_X4_copyFrom q_196 q_197 q_198 ⟨by decide, by decide⟩ 2 4 rfl rfl rfl (Fr.of [2, 3, 4, 5, 6, 7, 8, 9, 10, 11, 12, 13, 62, 63, 64, 65, 66, 67, 68, 69, 70, 71, 72, 73] rfl rfl rfl rfl rfl) rfl (Nat.le_of_ble_eq_true rfl) dX2_keep_22 kk
    · exact v_callV X (pc := 22) (st1 := []) (w' := (wHi x.g a c ζ (upN η 1 k) ++ wSt x.g a2 σ)) [.ref (a2 0)] [] (c_X4_copyFrom x.l x.g (c 1) a2 (η 1) σ ek) rfl rfl cw_X4_copyFrom q_196 q_197 q_198 ⟨by decide, by decide⟩ 14 4 rfl rfl rfl (Fr.of [14, 15, 16, 17, 18, 19, 20, 21, 22, 23, 24, 25, 62, 63, 64, 65, 66, 67, 68, 69, 70, 71, 72, 73] rfl rfl rfl rfl rfl) rfl (Nat.le_of_ble_eq_true rfl) dX2_keep_22 kk
    · exact v_callV X (pc := 22) (st1 := []) (w' := (wHi x.g a c ζ (upN η 2 k) ++ wSt x.g a2 σ)) [.ref (a2 0)] [] (c_X4_copyFrom x.l x.g (c 2) a2 (η 2) σ ek) rfl rfl cw_X4_copyFrom q_196 q_197 q_198 ⟨by decide, by decide⟩ 26 4 rfl rfl rfl (Fr.of [26, 27, 28, 29, 30, 31, 32, 33, 34, 35, 36, 37, 62, 63, 64, 65, 66, 67, 68, 69, 70, 71, 72, 73] rfl rfl rfl rfl rfl) rfl (Nat.le_of_ble_eq_true rfl) dX2_keep_22 kk
    · exact v_callV X (pc := 22) (st1 := []) (w' := (wHi x.g a c ζ (upN η 3 k) ++ wSt x.g a2 σ)) [.ref (a2 0)] [] (c_X4_copyFrom x.l x.g (c 3) a2 (η 3) σ ek) rfl rfl cw_X4_copyFrom q_196 q_197 q_198 ⟨by decide, by decide⟩ 38 4 rfl rfl rfl (Fr.of [38, 39, 40, 41, 42, 43, 44, 45, 46, 47, 48, 49, 62, 63, 64, 65, 66, 67, 68, 69, 70, 71, 72, 73] rfl rfl rfl rfl rfl) rfl (Nat.le_of_ble_eq_true rfl) dX2_keep_22 kk
    · exact v_callV X (pc := 22) (st1 := []) (w' := (wHi x.g a c ζ (upN η 4 k) ++ wSt x.g a2 σ)) [.ref (a2 0)] [] (c_X4_copyFrom x.l x.g (c 4) a2 (η 4) σ ek) rfl rfl cw_X4_copyFrom q_196 q_197 q_198 ⟨by decide, by decide⟩ 50 4 rfl rfl rfl (Fr.of [50, 51, 52, 53, 54, 55, 56, 57, 58, 59, 60, 61, 62, 63, 64, 65, 66, 67, 68, 69, 70, 71, 72, 73] rfl rfl rfl rfl rfl) rfl (Nat.le_of_ble_eq_true rfl) dX2_keep_22 kk
  refine call ?_
  refine v_aload_n X (pc := 25) dX2_keep_25 rfl 1 rfl ?_
  refine v_get X (pc := 26) (v := .int (ζ 1)) uw2 0 rfl rfl 2 (by decide) q_116 rfl rfl dX2_keep_26 ?_
  refine v_iconst X (pc := 29) (v := 5) dX2_keep_29 (by decide) ?_
  refine v_icmpge X (pc := 30) (tgt := 46) dX2_keep_30 (by decide) (fun c5 => ?_) (fun c5 => ?_)
  · replace h := hp c5 h
    refine v_aload_n X (pc := 46) dX2_keep_46 rfl 1 rfl ?_
    refine v_aload_n X (pc := 47) dX2_keep_47 rfl 1 rfl ?_
    refine v_get X (pc := 48) (v := .int (ζ 0)) uw2 0 rfl rfl 1 (by decide) q_115 rfl rfl dX2_keep_48 ?_
    refine v_iconst X (pc := 51) (v := 1) dX2_keep_51 (by decide) ?_
    refine v_iadd X (pc := 52) dX2_keep_52 ?_
    refine v_iconst X (pc := 53) (v := 5) dX2_keep_53 (by decide) ?_
    refine v_irem X (pc := 54) dX2_keep_54 (by decide) ?_
    refine v_put X (pc := 55) (w' := (wHi x.g a c (upd ζ 0 (rem5 (ζ 0 + 1))) (upN η j k) ++ wSt x.g a2 σ)) uw2 0 rfl rfl 1 (by decide) q_115 rfl tyX2 tyX2_ok nmX2 rfl rfl rfl (Nat.le_of_ble_eq_true rfl) rfl dX2_keep_55 ?_
    replace h := oi h
    subst h
    exact v_vret X (pc := 58) F dX2_keep_58
  · replace h := hn c5 h
    refine v_aload_n X (pc := 33) dX2_keep_33 rfl 1 rfl ?_
    refine v_dup X (pc := 34) dX2_keep_34 rfl ?_
    refine v_get X (pc := 35) (v := .int (ζ 1)) uw2 0 rfl rfl 2 (by decide) q_116 rfl rfl dX2_keep_35 ?_
    refine v_iconst X (pc := 38) (v := 1) dX2_keep_38 (by decide) ?_
    refine v_iadd X (pc := 39) dX2_keep_39 ?_
    refine v_put X (pc := 40) (w' := (wHi x.g a c (upd ζ 1 (ζ 1 + 1)) (upN η j k) ++ wSt x.g a2 σ)) uw2 0 rfl rfl 2 (by decide) q_116 rfl tyX2 tyX2_ok nmX2 rfl rfl rfl (Nat.le_of_ble_eq_true rfl) rfl dX2_keep_40 ?_
    refine v_goto X (pc := 43) (tgt := 58) dX2_keep_43 (by decide) ?_
    replace h := oi h
    subst h
    exact v_vret X (pc := 58) F dX2_keep_58
theorem cw_X2_keep : CwB yX2_keep cX2_keep 3 (Option.none : Option FieldType) 1 := ⟨q_231, q_17, by decide, by decide, by decide +kernel⟩
set_option maxHeartbeats 4000000 in
set_option maxRecDepth 100000 in
theorem c_X2_takeLatest (l : Launch) (g : Gl) (a : Nat → Nat) (c : Nat → Nat → Nat) (a2 : Nat → Nat) (ζ : Row) (η : Nat → Blk) (σ : Blk) {res : Row × Blk} (h : f_X2_takeLatest ζ η σ = some res) : Ok l g yX2_takeLatest cX2_takeLatest 3 (Option.none : Option FieldType) 4 90 [.ref (a 0), .ref (a2 0)] (wHi g a c ζ η ++ wSt g a2 σ) none (wHi g a c res.1 η ++ wSt g a2 res.2) := by
  unfold f_X2_takeLatest at h
  refine Ok.of RX2 (by decide) rfl (Nat.le_of_ble_eq_true rfl) (fun x hl hg X F => ?_)
  subst hg; subst hl
  show V x (wHi x.g a c ζ η ++ wSt x.g a2 σ) [(0, .ref (a 0)), (1, .ref (a2 0))] [] 0
  refine v_aload_n X (pc := 0) dX2_takeLatest_0 rfl 0 rfl ?_
  refine v_get X (pc := 1) (v := .int (ζ 1)) uw2 0 rfl rfl 2 (by decide) q_116 rfl rfl dX2_takeLatest_1 ?_
  refine v_ifle X (pc := 4) (tgt := 42) dX2_takeLatest_4 (by decide) (fun c5 => ?_) (fun c5 => ?_)
  · replace h := hp c5 h
    replace h := oi h
    subst h
    exact v_vret X (pc := 42) F dX2_takeLatest_42
  replace h := hn c5 h
  obtain ⟨hj, h⟩ := og h
  obtain ⟨k, ek, h⟩ := ob h
  refine v_aload_n X (pc := 7) dX2_takeLatest_7 rfl 0 rfl ?_
  refine v_dup X (pc := 8) dX2_takeLatest_8 rfl ?_
  refine v_get X (pc := 9) (v := .int (ζ 1)) uw2 0 rfl rfl 2 (by decide) q_116 rfl rfl dX2_takeLatest_9 ?_
  refine v_iconst X (pc := 12) (v := 1) dX2_takeLatest_12 (by decide) ?_
  refine v_isub X (pc := 13) dX2_takeLatest_13 ?_
  refine v_put X (pc := 14) (w' := (wHi x.g a c (upd ζ 1 (ζ 1 - 1)) η ++ wSt x.g a2 σ)) uw2 0 rfl rfl 2 (by decide) q_116 rfl tyX2 tyX2_ok nmX2 rfl rfl rfl (Nat.le_of_ble_eq_true rfl) rfl dX2_takeLatest_14 ?_
  refine v_aload_n X (pc := 17) dX2_takeLatest_17 rfl 0 rfl ?_
  refine v_aload_n X (pc := 18) dX2_takeLatest_18 rfl 0 rfl ?_
  refine v_get X (pc := 19) (v := .int (ζ 0)) uw2 0 rfl rfl 1 (by decide) q_115 rfl rfl dX2_takeLatest_19 ?_
  refine v_aload_n X (pc := 22) dX2_takeLatest_22 rfl 0 rfl ?_
  refine v_get X (pc := 23) (v := .int (ζ 1 - 1)) uw2 0 rfl rfl 2 (by decide) q_116 rfl rfl dX2_takeLatest_23 ?_
  refine v_iadd X (pc := 26) dX2_takeLatest_26 ?_
  refine v_iconst X (pc := 27) (v := 5) dX2_takeLatest_27 (by decide) ?_
  refine v_irem X (pc := 28) dX2_takeLatest_28 (by decide) ?_
  refine v_callV X (pc := 29) (st1 := [.ref (c (Int32.toNatClampNeg (rem5 (ζ 0 + (ζ 1 - 1)))) 0)]) (w' := (wHi x.g a c (upd ζ 1 (ζ 1 - 1)) η ++ wSt x.g a2 σ)) [.int (rem5 (ζ 0 + (ζ 1 - 1)))] [] (c_X2_stateAt x.l x.g a c (upd ζ 1 (ζ 1 - 1)) η (rem5 (ζ 0 + (ζ 1 - 1))) hj) rfl rfl cw_X2_stateAt q_192 q_194 q_0 ⟨by decide, by decide⟩ 0 2 rfl rfl rfl (Fr.of [0, 1, 2, 3, 4, 5, 6, 7, 8, 9, 10, 11, 12, 13, 14, 15, 16, 17, 18, 19, 20, 21, 22, 23, 24, 25, 26, 27, 28, 29, 30, 31, 32, 33, 34, 35, 36, 37, 38, 39, 40, 41, 42, 43, 44, 45, 46, 47, 48, 49, 50, 51, 52, 53, 54, 55, 56, 57, 58, 59, 60, 61] rfl rfl rfl rfl rfl) rfl (Nat.le_of_ble_eq_true rfl) dX2_takeLatest_29 ?_
  have hj5 := ib_lt hj
  generalize Int32.toNatClampNeg (rem5 (ζ 0 + (ζ 1 - 1))) = j at ek h hj5 ⊢
  refine v_astore_n X (pc := 32) (L2 := [(2, .ref (c j 0)), (0, .ref (a 0)), (1, .ref (a2 0))]) dX2_takeLatest_32 rfl (by decide) rfl ?_
  refine v_aload_n X (pc := 33) dX2_takeLatest_33 rfl 0 rfl ?_
  refine v_ifnull X (pc := 34) dX2_takeLatest_34 ?_
  refine v_aload_n X (pc := 37) dX2_takeLatest_37 rfl 2 rfl ?_
  refine v_aload_n X (pc := 38) dX2_takeLatest_38 rfl 0 rfl ?_
  have call : V x (wHi x.g a c (upd ζ 1 (ζ 1 - 1)) η ++ wSt x.g a2 k) [(2, .ref (c j 0)), (0, .ref (a 0)), (1, .ref (a2 0))] [] 42 → V x (wHi x.g a c (upd ζ 1 (ζ 1 - 1)) η ++ wSt x.g a2 σ) [(2, .ref (c j 0)), (0, .ref (a 0)), (1, .ref (a2 0))] [.ref (c j 0), .ref (a2 0)] 39 := by
    intro kk
    have hh : j = 0 ∨ j = 1 ∨ j = 2 ∨ j = 3 ∨ j = 4 := by omega
    rcases hh with rfl | rfl | rfl | rfl | rfl
    · exact v_callV X (pc := 39) (st1 := []) (w' := (wHi x.g a c (upd ζ 1 (ζ 1 - 1)) η ++ wSt x.g a2 k)) [.ref (c 0 0)] [] (c_X4_copyFrom x.l x.g a2 (c 0) σ (η 0) ek) rfl rfl cw_X4_copyFrom q_196 q_197 q_198 ⟨by decide, by decide⟩ 62 4 rfl rfl rfl (Fr.of [62, 63, 64, 65, 66, 67, 68, 69, 70, 71, 72, 73, 2, 3, 4, 5, 6, 7, 8, 9, 10, 11, 12, 13] rfl rfl rfl rfl rfl) rfl (Nat.le_of_ble_eq_true rfl) dX2_takeLatest_39 kk
    · exact v_callV X (pc := 39) (st1 := []) (w' := (wHi x.g a c (upd ζ 1 (ζ 1 - 1)) η ++ wSt x.g a2 k)) [.ref (c 1 0)] [] (c_X4_copyFrom x.l x.g a2 (c 1) σ (η 1) ek) rfl rfl cw_X4_copyFrom q_196 q_197 q_198 ⟨by decide, by decide⟩ 62 4 rfl rfl rfl (Fr.of [62, 63, 64, 65, 66, 67, 68, 69, 70, 71, 72, 73, 14, 15, 16, 17, 18, 19, 20, 21, 22, 23, 24, 25] rfl rfl rfl rfl rfl) rfl (Nat.le_of_ble_eq_true rfl) dX2_takeLatest_39 kk
    · exact v_callV X (pc := 39) (st1 := []) (w' := (wHi x.g a c (upd ζ 1 (ζ 1 - 1)) η ++ wSt x.g a2 k)) [.ref (c 2 0)] [] (c_X4_copyFrom x.l x.g a2 (c 2) σ (η 2) ek) rfl rfl cw_X4_copyFrom q_196 q_197 q_198 ⟨by decide, by decide⟩ 62 4 rfl rfl rfl (Fr.of [62, 63, 64, 65, 66, 67, 68, 69, 70, 71, 72, 73, 26, 27, 28, 29, 30, 31, 32, 33, 34, 35, 36, 37] rfl rfl rfl rfl rfl) rfl (Nat.le_of_ble_eq_true rfl) dX2_takeLatest_39 kk
    · exact v_callV X (pc := 39) (st1 := []) (w' := (wHi x.g a c (upd ζ 1 (ζ 1 - 1)) η ++ wSt x.g a2 k)) [.ref (c 3 0)] [] (c_X4_copyFrom x.l x.g a2 (c 3) σ (η 3) ek) rfl rfl cw_X4_copyFrom q_196 q_197 q_198 ⟨by decide, by decide⟩ 62 4 rfl rfl rfl (Fr.of [62, 63, 64, 65, 66, 67, 68, 69, 70, 71, 72, 73, 38, 39, 40, 41, 42, 43, 44, 45, 46, 47, 48, 49] rfl rfl rfl rfl rfl) rfl (Nat.le_of_ble_eq_true rfl) dX2_takeLatest_39 kk
    · exact v_callV X (pc := 39) (st1 := []) (w' := (wHi x.g a c (upd ζ 1 (ζ 1 - 1)) η ++ wSt x.g a2 k)) [.ref (c 4 0)] [] (c_X4_copyFrom x.l x.g a2 (c 4) σ (η 4) ek) rfl rfl cw_X4_copyFrom q_196 q_197 q_198 ⟨by decide, by decide⟩ 62 4 rfl rfl rfl (Fr.of [62, 63, 64, 65, 66, 67, 68, 69, 70, 71, 72, 73, 50, 51, 52, 53, 54, 55, 56, 57, 58, 59, 60, 61] rfl rfl rfl rfl rfl) rfl (Nat.le_of_ble_eq_true rfl) dX2_takeLatest_39 kk
  refine call ?_
  replace h := oi h
  subst h
  exact v_vret X (pc := 42) F dX2_takeLatest_42
theorem cw_X2_takeLatest : CwB yX2_takeLatest cX2_takeLatest 3 (Option.none : Option FieldType) 1 := ⟨q_191, q_17, by decide, by decide, by decide +kernel⟩
