def f_X0_comeNearer (δ : Row) (σ : Blk) (x2 : Int32) (x3 : Bool) : Option (Bool × Row) :=
  (f_X4_isUnderRepair σ x2).bind fun q2 => (if q2 = true then some (false, δ) else (f_X4_goes σ x2 x3).bind fun q11 => (if q11 = true then (f_X4_hallBehind σ x2 x3).bind fun q22 => (f_X4_hallAhead σ x2 x3).bind fun q34 => (f_X5_at 6 δ q34).bind fun q37 => (f_X5_at 6 δ q22).bind fun q52 => (if (q37 + 1) < q52 then (f_X5_put 6 δ q22 (q37 + 1)).bind fun q68 => some (true, q68) else some (false, δ)) else some (false, δ)))
set_option maxHeartbeats 4000000 in
set_option maxRecDepth 100000 in
theorem c_X0_comeNearer (l : Launch) (g : Gl) (a : Nat → Nat) (a2 : Nat → Nat) (δ : Row) (σ : Blk) (x2 : Int32) (x3 : Bool) {res : Bool × Row} (h : f_X0_comeNearer δ σ x2 x3 = some res) : Ok l g yX0_comeNearer cX0_comeNearer 6 (Option.some FieldType.boolean) 3 65 [.ref (a 0), .ref (a2 0), .int x2, .int (b2i x3)] (wCl g a δ ++ wSt g a2 σ) (some (.int (b2i res.1))) (wCl g a res.2 ++ wSt g a2 σ) := by
  refine Ok.of RX0 (by decide) rfl (Nat.le_of_ble_eq_true rfl) (fun x hl hg X F => ?_)
  subst hg; subst hl
  rw [f_X0_comeNearer] at h
  show V x (wCl x.g a δ ++ wSt x.g a2 σ) [(0, .ref (a 0)), (1, .ref (a2 0)), (2, .int x2), (3, .int (b2i x3))] [] 0
  refine v_aload_n X (pc := 0) dX0_comeNearer_0 rfl 1 rfl ?_
  refine v_iload_n X (pc := 1) dX0_comeNearer_1 rfl 2 rfl ?_
  obtain ⟨q2, e2, h⟩ := ob h
  refine v_callV X (pc := 2) (st1 := [.int (b2i q2)]) (w' := (wCl x.g a δ ++ wSt x.g a2 σ)) [.int x2] [] (c_X4_isUnderRepair x.l x.g a2 σ x2 e2) rfl rfl cw_X4_isUnderRepair q_430 q_267 q_268 ⟨by decide, by decide⟩ 2 4 rfl rfl rfl (Fr.of [2, 3, 4, 5, 6, 7, 8, 9, 10, 11, 12, 13] rfl rfl rfl rfl rfl) rfl (Nat.le_of_ble_eq_true rfl) dX0_comeNearer_2 ?_
  refine v_ifneB X (pc := 5) (tgt := 17) dX0_comeNearer_5 (by decide) (fun c => ?_) (fun c => ?_)
  · replace h := hp c h
    refine v_iconst X (pc := 17) (v := 0) dX0_comeNearer_17 (by decide) ?_
    replace h := oi h
    subst h
    exact v_bret X (pc := 18) (b := false) F dX0_comeNearer_18
  · replace h := hn (nbt c) h
    refine v_aload_n X (pc := 8) dX0_comeNearer_8 rfl 1 rfl ?_
    refine v_iload_n X (pc := 9) dX0_comeNearer_9 rfl 2 rfl ?_
    refine v_iload_n X (pc := 10) dX0_comeNearer_10 rfl 3 rfl ?_
    obtain ⟨q11, e11, h⟩ := ob h
    refine v_callV X (pc := 11) (st1 := [.int (b2i q11)]) (w' := (wCl x.g a δ ++ wSt x.g a2 σ)) [.int x2, .int (b2i x3)] [] (c_X4_goes x.l x.g a2 σ x2 x3 e11) rfl rfl cw_X4_goes q_431 q_432 q_433 ⟨by decide, by decide⟩ 2 4 rfl rfl rfl (Fr.of [2, 3, 4, 5, 6, 7, 8, 9, 10, 11, 12, 13] rfl rfl rfl rfl rfl) rfl (Nat.le_of_ble_eq_true rfl) dX0_comeNearer_11 ?_
    refine v_ifneB X (pc := 14) (tgt := 19) dX0_comeNearer_14 (by decide) (fun c => ?_) (fun c => ?_)
    · replace h := hp c h
      refine v_aload_n X (pc := 19) dX0_comeNearer_19 rfl 1 rfl ?_
      refine v_iload_n X (pc := 20) dX0_comeNearer_20 rfl 2 rfl ?_
      refine v_iload_n X (pc := 21) dX0_comeNearer_21 rfl 3 rfl ?_
      obtain ⟨q22, e22, h⟩ := ob h
      refine v_callV X (pc := 22) (st1 := [.int q22]) (w' := (wCl x.g a δ ++ wSt x.g a2 σ)) [.int x2, .int (b2i x3)] [] (c_X4_hallBehind x.l x.g a2 σ x2 x3 e22) rfl rfl cw_X4_hallBehind q_435 q_436 q_437 ⟨by decide, by decide⟩ 2 4 rfl rfl rfl (Fr.of [2, 3, 4, 5, 6, 7, 8, 9, 10, 11, 12, 13] rfl rfl rfl rfl rfl) rfl (Nat.le_of_ble_eq_true rfl) dX0_comeNearer_22 ?_
      refine v_istore X (pc := 25) (L2 := [(4, .int q22), (0, .ref (a 0)), (1, .ref (a2 0)), (2, .int x2), (3, .int (b2i x3))]) dX0_comeNearer_25 (by decide) rfl ?_
      refine v_aload_n X (pc := 27) dX0_comeNearer_27 rfl 1 rfl ?_
      refine v_get X (pc := 28) (v := .ref (a 1)) uw0 0 rfl rfl 0 (by decide) q_131 rfl rfl dX0_comeNearer_28 ?_
      refine v_aload_n X (pc := 31) dX0_comeNearer_31 rfl 2 rfl ?_
      refine v_iload_n X (pc := 32) dX0_comeNearer_32 rfl 3 rfl ?_
      refine v_iload_n X (pc := 33) dX0_comeNearer_33 rfl 4 rfl ?_
      obtain ⟨q34, e34, h⟩ := ob h
      refine v_callV X (pc := 34) (st1 := [.int q34, .ref (a 1)]) (w' := (wCl x.g a δ ++ wSt x.g a2 σ)) [.int x2, .int (b2i x3)] [.ref (a 1)] (c_X4_hallAhead x.l x.g a2 σ x2 x3 e34) rfl rfl cw_X4_hallAhead q_439 q_440 q_441 ⟨by decide, by decide⟩ 2 4 rfl rfl rfl (Fr.of [2, 3, 4, 5, 6, 7, 8, 9, 10, 11, 12, 13] rfl rfl rfl rfl rfl) rfl (Nat.le_of_ble_eq_true rfl) dX0_comeNearer_34 ?_
      obtain ⟨q37, e37, h⟩ := ob h
      refine v_callSN X (pc := 37) (st1 := [.int q37]) (w' := (wCl x.g a δ ++ wSt x.g a2 σ)) [.ref (a 1), .int q34] [] (c_X5_at x.l x.g (a 1) 6 δ q34 e37) rfl rfl cw_X5_at k_30 q_221 ⟨by decide, by decide⟩ (Fr.of [1] rfl rfl rfl rfl rfl) rfl (Nat.le_of_ble_eq_true rfl) dX0_comeNearer_37 ?_
      refine v_iconst X (pc := 40) (v := 1) dX0_comeNearer_40 (by decide) ?_
      refine v_iadd X (pc := 41) dX0_comeNearer_41 ?_
      refine v_istore X (pc := 42) (L2 := [(5, .int (q37 + 1)), (4, .int q22), (0, .ref (a 0)), (1, .ref (a2 0)), (2, .int x2), (3, .int (b2i x3))]) dX0_comeNearer_42 (by decide) rfl ?_
      refine v_iload X (pc := 44) dX0_comeNearer_44 0 rfl ?_
      refine v_aload_n X (pc := 46) dX0_comeNearer_46 rfl 2 rfl ?_
      refine v_get X (pc := 47) (v := .ref (a 1)) uw0 0 rfl rfl 0 (by decide) q_131 rfl rfl dX0_comeNearer_47 ?_
      refine v_iload X (pc := 50) dX0_comeNearer_50 1 rfl ?_
      obtain ⟨q52, e52, h⟩ := ob h
      refine v_callSN X (pc := 52) (st1 := [.int q52, .int (q37 + 1)]) (w' := (wCl x.g a δ ++ wSt x.g a2 σ)) [.ref (a 1), .int q22] [.int (q37 + 1)] (c_X5_at x.l x.g (a 1) 6 δ q22 e52) rfl rfl cw_X5_at k_30 q_221 ⟨by decide, by decide⟩ (Fr.of [1] rfl rfl rfl rfl rfl) rfl (Nat.le_of_ble_eq_true rfl) dX0_comeNearer_52 ?_
      refine v_icmplt X (pc := 55) (tgt := 60) dX0_comeNearer_55 (by decide) (fun c => ?_) (fun c => ?_)
      · replace h := hp c h
        refine v_aload_n X (pc := 60) dX0_comeNearer_60 rfl 2 rfl ?_
        refine v_get X (pc := 61) (v := .ref (a 1)) uw0 0 rfl rfl 0 (by decide) q_131 rfl rfl dX0_comeNearer_61 ?_
        refine v_iload X (pc := 64) dX0_comeNearer_64 1 rfl ?_
        refine v_iload X (pc := 66) dX0_comeNearer_66 0 rfl ?_
        obtain ⟨q68, e68, h⟩ := ob h
        refine v_callSN X (pc := 68) (st1 := []) (w' := (wCl x.g a q68 ++ wSt x.g a2 σ)) [.ref (a 1), .int q22, .int (q37 + 1)] [] (c_X5_put x.l x.g (a 1) 6 δ q22 (q37 + 1) e68) rfl rfl cw_X5_put k_29 q_329 ⟨by decide, by decide⟩ (Fr.of [1] rfl rfl rfl rfl rfl) rfl (Nat.le_of_ble_eq_true rfl) dX0_comeNearer_68 ?_
        refine v_iconst X (pc := 71) (v := 1) dX0_comeNearer_71 (by decide) ?_
        replace h := oi h
        subst h
        exact v_bret X (pc := 72) (b := true) F dX0_comeNearer_72
      · replace h := hn c h
        refine v_iconst X (pc := 58) (v := 0) dX0_comeNearer_58 (by decide) ?_
        replace h := oi h
        subst h
        exact v_bret X (pc := 59) (b := false) F dX0_comeNearer_59
    · replace h := hn (nbt c) h
      refine v_iconst X (pc := 17) (v := 0) dX0_comeNearer_17 (by decide) ?_
      replace h := oi h
      subst h
      exact v_bret X (pc := 18) (b := false) F dX0_comeNearer_18
theorem cw_X0_comeNearer : CwB yX0_comeNearer cX0_comeNearer 6 (Option.some FieldType.boolean) 3 := ⟨q_429, q_18, by decide, by decide, by decide +kernel⟩
def f_X0_comeNearerByAll_L4 (σ : Blk) : Nat → Row → Int32 → Int32 → Option (Bool × Row)
  | 0, _, _, _ => none
  | n + 1, δ, x2, x3 =>
    (if (σ 0 0) ≤ x3 then (asB x2).bind fun r57 => some (r57, δ) else (f_X0_comeNearer δ σ x3 true).bind fun q16 => (f_X0_comeNearer q16.2 σ x3 false).bind fun q25 => (if x2 = 0 then (if q16.1 = true then f_X0_comeNearerByAll_L4 σ n q25.2 1 (x3 + 1) else (if q25.1 = true then f_X0_comeNearerByAll_L4 σ n q25.2 1 (x3 + 1) else f_X0_comeNearerByAll_L4 σ n q25.2 0 (x3 + 1))) else f_X0_comeNearerByAll_L4 σ n q25.2 1 (x3 + 1)))
set_option maxHeartbeats 4000000 in
set_option maxRecDepth 100000 in
theorem v_X0_comeNearerByAll_L4 {x : Ctx} (X : Cx x RX0 cX0_comeNearerByAll 6 4 90) (a : Nat → Nat) (a2 : Nat → Nat) (σ : Blk) : ∀ (n : Nat) (δ : Row) (x2 : Int32) (x3 : Int32) {res : Bool × Row}, f_X0_comeNearerByAll_L4 σ n δ x2 x3 = some res → Fn x (Option.some FieldType.boolean) (some (.int (b2i res.1))) (wCl x.g a res.2 ++ wSt x.g a2 σ) → V x (wCl x.g a δ ++ wSt x.g a2 σ) [(0, .ref (a 0)), (1, .ref (a2 0)), (2, .int x2), (3, .int x3)] [] 4 := by
  intro n
  induction n with
  | zero =>
    intro δ x2 x3 res h F
    rw [f_X0_comeNearerByAll_L4] at h
    cases h
  | succ n ih =>
    intro δ x2 x3 res h F
    rw [f_X0_comeNearerByAll_L4] at h
    refine v_iload_n X (pc := 4) dX0_comeNearerByAll_4 rfl 3 rfl ?_
    refine v_aload_n X (pc := 5) dX0_comeNearerByAll_5 rfl 1 rfl ?_
    refine v_getN X (pc := 6) (v := .int (σ 0 0)) uw4 2 rfl rfl 7 (by decide) k_12 rfl rfl dX0_comeNearerByAll_6 ?_
    refine v_icmpge X (pc := 9) (tgt := 56) dX0_comeNearerByAll_9 (by decide) (fun c => ?_) (fun c => ?_)
    · replace h := hp c h
      refine v_iload_n X (pc := 56) dX0_comeNearerByAll_56 rfl 2 rfl ?_
      obtain ⟨r57, er57, h⟩ := ob h
      rw [asB_s er57]
      replace h := oi h
      subst h
      exact v_bret X (pc := 57) (b := r57) F dX0_comeNearerByAll_57
    · replace h := hn c h
      refine v_aload_n X (pc := 12) dX0_comeNearerByAll_12 rfl 0 rfl ?_
      refine v_aload_n X (pc := 13) dX0_comeNearerByAll_13 rfl 1 rfl ?_
      refine v_iload_n X (pc := 14) dX0_comeNearerByAll_14 rfl 3 rfl ?_
      refine v_iconst X (pc := 15) (v := 1) dX0_comeNearerByAll_15 (by decide) ?_
      obtain ⟨q16, e16, h⟩ := ob h
      refine v_callV X (pc := 16) (st1 := [.int (b2i q16.1)]) (w' := (wCl x.g a q16.2 ++ wSt x.g a2 σ)) [.ref (a2 0), .int x3, .int (b2i true)] [] (c_X0_comeNearer x.l x.g a a2 δ σ x3 true e16) rfl rfl cw_X0_comeNearer q_426 q_428 q_7 ⟨by decide, by decide⟩ 0 0 rfl rfl rfl (Fr.all rfl) rfl (Nat.le_of_ble_eq_true rfl) dX0_comeNearerByAll_16 ?_
      refine v_istore X (pc := 19) (L2 := [(4, .int (b2i q16.1)), (0, .ref (a 0)), (1, .ref (a2 0)), (2, .int x2), (3, .int x3)]) dX0_comeNearerByAll_19 (by decide) rfl ?_
      refine v_aload_n X (pc := 21) dX0_comeNearerByAll_21 rfl 1 rfl ?_
      refine v_aload_n X (pc := 22) dX0_comeNearerByAll_22 rfl 2 rfl ?_
      refine v_iload_n X (pc := 23) dX0_comeNearerByAll_23 rfl 4 rfl ?_
      refine v_iconst X (pc := 24) (v := 0) dX0_comeNearerByAll_24 (by decide) ?_
      obtain ⟨q25, e25, h⟩ := ob h
      refine v_callV X (pc := 25) (st1 := [.int (b2i q25.1)]) (w' := (wCl x.g a q25.2 ++ wSt x.g a2 σ)) [.ref (a2 0), .int x3, .int (b2i false)] [] (c_X0_comeNearer x.l x.g a a2 q16.2 σ x3 false e25) rfl rfl cw_X0_comeNearer q_426 q_428 q_7 ⟨by decide, by decide⟩ 0 0 rfl rfl rfl (Fr.all rfl) rfl (Nat.le_of_ble_eq_true rfl) dX0_comeNearerByAll_25 ?_
      refine v_istore X (pc := 28) (L2 := [(5, .int (b2i q25.1)), (4, .int (b2i q16.1)), (0, .ref (a 0)), (1, .ref (a2 0)), (2, .int x2), (3, .int x3)]) dX0_comeNearerByAll_28 (by decide) rfl ?_
      refine v_iload_n X (pc := 30) dX0_comeNearerByAll_30 rfl 4 rfl ?_
      refine v_ifne X (pc := 31) (tgt := 44) dX0_comeNearerByAll_31 (by decide) (fun c => ?_) (fun c => ?_)
      · replace h := hn c h
        refine v_iconst X (pc := 44) (v := 1) dX0_comeNearerByAll_44 (by decide) ?_
        refine v_goto X (pc := 45) (tgt := 49) dX0_comeNearerByAll_45 (by decide) ?_
        refine v_istore_n X (pc := 49) (L2 := [(2, .int 1), (5, .int (b2i q25.1)), (4, .int (b2i q16.1)), (0, .ref (a 0)), (1, .ref (a2 0)), (3, .int x3)]) dX0_comeNearerByAll_49 rfl (by decide) rfl ?_
        refine v_iinc X (pc := 50) (v := (x3 + 1)) (L2 := [(3, .int (x3 + 1)), (2, .int 1), (5, .int (b2i q25.1)), (4, .int (b2i q16.1)), (0, .ref (a 0)), (1, .ref (a2 0))]) dX0_comeNearerByAll_50 5 rfl (by first | rfl | decide) (by decide) rfl ?_
        refine v_goto X (pc := 53) (tgt := 4) dX0_comeNearerByAll_53 (by decide) ?_
        refine v_sub (L2 := [(0, .ref (a 0)), (1, .ref (a2 0)), (2, .int 1), (3, .int (x3 + 1))]) [4, 5, 1, 0] rfl ?_
        exact ih q25.2 1 (x3 + 1) h F
      · replace h := hp c h
        refine v_iload X (pc := 34) dX0_comeNearerByAll_34 1 rfl ?_
        refine v_ifneB X (pc := 36) (tgt := 44) dX0_comeNearerByAll_36 (by decide) (fun c => ?_) (fun c => ?_)
        · replace h := hp c h
          refine v_iconst X (pc := 44) (v := 1) dX0_comeNearerByAll_44 (by decide) ?_
          refine v_goto X (pc := 45) (tgt := 49) dX0_comeNearerByAll_45 (by decide) ?_
          refine v_istore_n X (pc := 49) (L2 := [(2, .int 1), (5, .int (b2i q25.1)), (4, .int (b2i q16.1)), (0, .ref (a 0)), (1, .ref (a2 0)), (3, .int x3)]) dX0_comeNearerByAll_49 rfl (by decide) rfl ?_
          refine v_iinc X (pc := 50) (v := (x3 + 1)) (L2 := [(3, .int (x3 + 1)), (2, .int 1), (5, .int (b2i q25.1)), (4, .int (b2i q16.1)), (0, .ref (a 0)), (1, .ref (a2 0))]) dX0_comeNearerByAll_50 5 rfl (by first | rfl | decide) (by decide) rfl ?_
          refine v_goto X (pc := 53) (tgt := 4) dX0_comeNearerByAll_53 (by decide) ?_
          refine v_sub (L2 := [(0, .ref (a 0)), (1, .ref (a2 0)), (2, .int 1), (3, .int (x3 + 1))]) [4, 5, 1, 0] rfl ?_
          exact ih q25.2 1 (x3 + 1) h F
        · replace h := hn (nbt c) h
          refine v_iload X (pc := 39) dX0_comeNearerByAll_39 0 rfl ?_
          refine v_ifeqB X (pc := 41) (tgt := 48) dX0_comeNearerByAll_41 (by decide) (fun c => ?_) (fun c => ?_)
          · replace h := hn (nbt c) h
            refine v_iconst X (pc := 48) (v := 0) dX0_comeNearerByAll_48 (by decide) ?_
            refine v_istore_n X (pc := 49) (L2 := [(2, .int 0), (5, .int (b2i q25.1)), (4, .int (b2i q16.1)), (0, .ref (a 0)), (1, .ref (a2 0)), (3, .int x3)]) dX0_comeNearerByAll_49 rfl (by decide) rfl ?_
            refine v_iinc X (pc := 50) (v := (x3 + 1)) (L2 := [(3, .int (x3 + 1)), (2, .int 0), (5, .int (b2i q25.1)), (4, .int (b2i q16.1)), (0, .ref (a 0)), (1, .ref (a2 0))]) dX0_comeNearerByAll_50 5 rfl (by first | rfl | decide) (by decide) rfl ?_
            refine v_goto X (pc := 53) (tgt := 4) dX0_comeNearerByAll_53 (by decide) ?_
            refine v_sub (L2 := [(0, .ref (a 0)), (1, .ref (a2 0)), (2, .int 0), (3, .int (x3 + 1))]) [4, 5, 1, 0] rfl ?_
            exact ih q25.2 0 (x3 + 1) h F
          · replace h := hp c h
            refine v_iconst X (pc := 44) (v := 1) dX0_comeNearerByAll_44 (by decide) ?_
            refine v_goto X (pc := 45) (tgt := 49) dX0_comeNearerByAll_45 (by decide) ?_
            refine v_istore_n X (pc := 49) (L2 := [(2, .int 1), (5, .int (b2i q25.1)), (4, .int (b2i q16.1)), (0, .ref (a 0)), (1, .ref (a2 0)), (3, .int x3)]) dX0_comeNearerByAll_49 rfl (by decide) rfl ?_
            refine v_iinc X (pc := 50) (v := (x3 + 1)) (L2 := [(3, .int (x3 + 1)), (2, .int 1), (5, .int (b2i q25.1)), (4, .int (b2i q16.1)), (0, .ref (a 0)), (1, .ref (a2 0))]) dX0_comeNearerByAll_50 5 rfl (by first | rfl | decide) (by decide) rfl ?_
            refine v_goto X (pc := 53) (tgt := 4) dX0_comeNearerByAll_53 (by decide) ?_
            refine v_sub (L2 := [(0, .ref (a 0)), (1, .ref (a2 0)), (2, .int 1), (3, .int (x3 + 1))]) [4, 5, 1, 0] rfl ?_
            exact ih q25.2 1 (x3 + 1) h F
def f_X0_comeNearerByAll (δ : Row) (σ : Blk) : Option (Bool × Row) :=
  f_X0_comeNearerByAll_L4 σ FU δ 0 0
set_option maxHeartbeats 4000000 in
set_option maxRecDepth 100000 in
theorem c_X0_comeNearerByAll (l : Launch) (g : Gl) (a : Nat → Nat) (a2 : Nat → Nat) (δ : Row) (σ : Blk) {res : Bool × Row} (h : f_X0_comeNearerByAll δ σ = some res) : Ok l g yX0_comeNearerByAll cX0_comeNearerByAll 6 (Option.some FieldType.boolean) 4 90 [.ref (a 0), .ref (a2 0)] (wCl g a δ ++ wSt g a2 σ) (some (.int (b2i res.1))) (wCl g a res.2 ++ wSt g a2 σ) := by
  refine Ok.of RX0 (by decide) rfl (Nat.le_of_ble_eq_true rfl) (fun x hl hg X F => ?_)
  subst hg; subst hl
  rw [f_X0_comeNearerByAll] at h
  show V x (wCl x.g a δ ++ wSt x.g a2 σ) [(0, .ref (a 0)), (1, .ref (a2 0))] [] 0
  refine v_iconst X (pc := 0) (v := 0) dX0_comeNearerByAll_0 (by decide) ?_
  refine v_istore_n X (pc := 1) (L2 := [(2, .int 0), (0, .ref (a 0)), (1, .ref (a2 0))]) dX0_comeNearerByAll_1 rfl (by decide) rfl ?_
  refine v_iconst X (pc := 2) (v := 0) dX0_comeNearerByAll_2 (by decide) ?_
  refine v_istore_n X (pc := 3) (L2 := [(3, .int 0), (2, .int 0), (0, .ref (a 0)), (1, .ref (a2 0))]) dX0_comeNearerByAll_3 rfl (by decide) rfl ?_
  refine v_sub (L2 := [(0, .ref (a 0)), (1, .ref (a2 0)), (2, .int 0), (3, .int 0)]) [2, 3, 1, 0] rfl ?_
  exact v_X0_comeNearerByAll_L4 X a a2 σ FU δ 0 0 h F
theorem cw_X0_comeNearerByAll : CwB yX0_comeNearerByAll cX0_comeNearerByAll 6 (Option.some FieldType.boolean) 1 := ⟨q_425, q_18, by decide, by decide, by decide +kernel⟩
def f_X0_measureDistances_L37 (σ : Blk) : Nat → Row → Int32 → Int32 → Option (Row)
  | 0, _, _, _ => none
  | n + 1, δ, x2, x3 =>
    (if 6 ≤ x3 then some δ else (if x2 = 0 then some δ else (f_X0_comeNearerByAll δ σ).bind fun q49 => f_X0_measureDistances_L37 σ n q49.2 (b2i q49.1) (x3 + 1)))
set_option maxHeartbeats 4000000 in
set_option maxRecDepth 100000 in
theorem v_X0_measureDistances_L37 {x : Ctx} (X : Cx x RX0 cX0_measureDistances 4 5 115) (a : Nat → Nat) (a2 : Nat → Nat) (σ : Blk) : ∀ (n : Nat) (δ : Row) (x2 : Int32) (x3 : Int32) {res : Row}, f_X0_measureDistances_L37 σ n δ x2 x3 = some res → Fn x (Option.none : Option FieldType) none (wCl x.g a res ++ wSt x.g a2 σ) → V x (wCl x.g a δ ++ wSt x.g a2 σ) [(0, .ref (a 0)), (1, .ref (a2 0)), (2, .int x2), (3, .int x3)] [] 37 := by
  intro n
  induction n with
  | zero =>
    intro δ x2 x3 res h F
    rw [f_X0_measureDistances_L37] at h
    cases h
  | succ n ih =>
    intro δ x2 x3 res h F
    rw [f_X0_measureDistances_L37] at h
    refine v_iload_n X (pc := 37) dX0_measureDistances_37 rfl 3 rfl ?_
    refine v_bipush X (pc := 38) (v := 6) dX0_measureDistances_38 (by decide) ?_
    refine v_icmpge X (pc := 40) (tgt := 59) dX0_measureDistances_40 (by decide) (fun c => ?_) (fun c => ?_)
    · replace h := hp c h
      replace h := oi h
      subst h
      exact v_vret X (pc := 59) F dX0_measureDistances_59
    · replace h := hn c h
      refine v_iload_n X (pc := 43) dX0_measureDistances_43 rfl 2 rfl ?_
      refine v_ifeq X (pc := 44) (tgt := 59) dX0_measureDistances_44 (by decide) (fun c => ?_) (fun c => ?_)
      · replace h := hp c h
        replace h := oi h
        subst h
        exact v_vret X (pc := 59) F dX0_measureDistances_59
      · replace h := hn c h
        refine v_aload_n X (pc := 47) dX0_measureDistances_47 rfl 0 rfl ?_
        refine v_aload_n X (pc := 48) dX0_measureDistances_48 rfl 1 rfl ?_
        obtain ⟨q49, e49, h⟩ := ob h
        refine v_callV X (pc := 49) (st1 := [.int (b2i q49.1)]) (w' := (wCl x.g a q49.2 ++ wSt x.g a2 σ)) [.ref (a2 0)] [] (c_X0_comeNearerByAll x.l x.g a a2 δ σ e49) rfl rfl cw_X0_comeNearerByAll q_422 q_424 q_6 ⟨by decide, by decide⟩ 0 0 rfl rfl rfl (Fr.all rfl) rfl (Nat.le_of_ble_eq_true rfl) dX0_measureDistances_49 ?_
        refine v_istore_n X (pc := 52) (L2 := [(2, .int (b2i q49.1)), (0, .ref (a 0)), (1, .ref (a2 0)), (3, .int x3)]) dX0_measureDistances_52 rfl (by decide) rfl ?_
        refine v_iinc X (pc := 53) (v := (x3 + 1)) (L2 := [(3, .int (x3 + 1)), (2, .int (b2i q49.1)), (0, .ref (a 0)), (1, .ref (a2 0))]) dX0_measureDistances_53 3 rfl (by first | rfl | decide) (by decide) rfl ?_
        refine v_goto X (pc := 56) (tgt := 37) dX0_measureDistances_56 (by decide) ?_
        refine v_sub (L2 := [(0, .ref (a 0)), (1, .ref (a2 0)), (2, .int (b2i q49.1)), (3, .int (x3 + 1))]) [2, 3, 1, 0] rfl ?_
        exact ih q49.2 (b2i q49.1) (x3 + 1) h F
def f_X0_measureDistances_L2 (σ : Blk) : Nat → Row → Int32 → Option (Row)
  | 0, _, _ => none
  | n + 1, δ, x2 =>
    (if 6 ≤ x2 then f_X0_measureDistances_L37 σ FU δ 1 1 else (if x2 = 0 then (f_X5_put 6 δ x2 0).bind fun q24 => f_X0_measureDistances_L2 σ n q24 (x2 + 1) else (f_X5_put 6 δ x2 1000).bind fun q24 => f_X0_measureDistances_L2 σ n q24 (x2 + 1)))
set_option maxHeartbeats 4000000 in
set_option maxRecDepth 100000 in
theorem v_X0_measureDistances_L2 {x : Ctx} (X : Cx x RX0 cX0_measureDistances 4 5 115) (a : Nat → Nat) (a2 : Nat → Nat) (σ : Blk) : ∀ (n : Nat) (δ : Row) (x2 : Int32) {res : Row}, f_X0_measureDistances_L2 σ n δ x2 = some res → Fn x (Option.none : Option FieldType) none (wCl x.g a res ++ wSt x.g a2 σ) → V x (wCl x.g a δ ++ wSt x.g a2 σ) [(0, .ref (a 0)), (1, .ref (a2 0)), (2, .int x2)] [] 2 := by
  intro n
  induction n with
  | zero =>
    intro δ x2 res h F
    rw [f_X0_measureDistances_L2] at h
    cases h
  | succ n ih =>
    intro δ x2 res h F
    rw [f_X0_measureDistances_L2] at h
    refine v_iload_n X (pc := 2) dX0_measureDistances_2 rfl 2 rfl ?_
    refine v_bipush X (pc := 3) (v := 6) dX0_measureDistances_3 (by decide) ?_
    refine v_icmpge X (pc := 5) (tgt := 33) dX0_measureDistances_5 (by decide) (fun c => ?_) (fun c => ?_)
    · replace h := hp c h
      refine v_iconst X (pc := 33) (v := 1) dX0_measureDistances_33 (by decide) ?_
      refine v_istore_n X (pc := 34) (L2 := [(2, .int 1), (0, .ref (a 0)), (1, .ref (a2 0))]) dX0_measureDistances_34 rfl (by decide) rfl ?_
      refine v_iconst X (pc := 35) (v := 1) dX0_measureDistances_35 (by decide) ?_
      refine v_istore_n X (pc := 36) (L2 := [(3, .int 1), (2, .int 1), (0, .ref (a 0)), (1, .ref (a2 0))]) dX0_measureDistances_36 rfl (by decide) rfl ?_
      refine v_sub (L2 := [(0, .ref (a 0)), (1, .ref (a2 0)), (2, .int 1), (3, .int 1)]) [2, 3, 1, 0] rfl ?_
      exact v_X0_measureDistances_L37 X a a2 σ FU δ 1 1 h F
    · replace h := hn c h
      refine v_aload_n X (pc := 8) dX0_measureDistances_8 rfl 0 rfl ?_
      refine v_get X (pc := 9) (v := .ref (a 1)) uw0 0 rfl rfl 0 (by decide) q_131 rfl rfl dX0_measureDistances_9 ?_
      refine v_iload_n X (pc := 12) dX0_measureDistances_12 rfl 2 rfl ?_
      refine v_iload_n X (pc := 13) dX0_measureDistances_13 rfl 2 rfl ?_
      refine v_ifne X (pc := 14) (tgt := 21) dX0_measureDistances_14 (by decide) (fun c => ?_) (fun c => ?_)
      · replace h := hn c h
        refine v_sipush X (pc := 21) (v := 1000) dX0_measureDistances_21 (by decide) ?_
        obtain ⟨q24, e24, h⟩ := ob h
        refine v_callSN X (pc := 24) (st1 := []) (w' := (wCl x.g a q24 ++ wSt x.g a2 σ)) [.ref (a 1), .int x2, .int 1000] [] (c_X5_put x.l x.g (a 1) 6 δ x2 1000 e24) rfl rfl cw_X5_put k_29 q_329 ⟨by decide, by decide⟩ (Fr.of [1] rfl rfl rfl rfl rfl) rfl (Nat.le_of_ble_eq_true rfl) dX0_measureDistances_24 ?_
        refine v_iinc X (pc := 27) (v := (x2 + 1)) (L2 := [(2, .int (x2 + 1)), (0, .ref (a 0)), (1, .ref (a2 0))]) dX0_measureDistances_27 2 rfl (by first | rfl | decide) (by decide) rfl ?_
        refine v_goto X (pc := 30) (tgt := 2) dX0_measureDistances_30 (by decide) ?_
        refine v_sub (L2 := [(0, .ref (a 0)), (1, .ref (a2 0)), (2, .int (x2 + 1))]) [1, 2, 0] rfl ?_
        exact ih q24 (x2 + 1) h F
      · replace h := hp c h
        refine v_iconst X (pc := 17) (v := 0) dX0_measureDistances_17 (by decide) ?_
        refine v_goto X (pc := 18) (tgt := 24) dX0_measureDistances_18 (by decide) ?_
        obtain ⟨q24, e24, h⟩ := ob h
        refine v_callSN X (pc := 24) (st1 := []) (w' := (wCl x.g a q24 ++ wSt x.g a2 σ)) [.ref (a 1), .int x2, .int 0] [] (c_X5_put x.l x.g (a 1) 6 δ x2 0 e24) rfl rfl cw_X5_put k_29 q_329 ⟨by decide, by decide⟩ (Fr.of [1] rfl rfl rfl rfl rfl) rfl (Nat.le_of_ble_eq_true rfl) dX0_measureDistances_24 ?_
        refine v_iinc X (pc := 27) (v := (x2 + 1)) (L2 := [(2, .int (x2 + 1)), (0, .ref (a 0)), (1, .ref (a2 0))]) dX0_measureDistances_27 2 rfl (by first | rfl | decide) (by decide) rfl ?_
        refine v_goto X (pc := 30) (tgt := 2) dX0_measureDistances_30 (by decide) ?_
        refine v_sub (L2 := [(0, .ref (a 0)), (1, .ref (a2 0)), (2, .int (x2 + 1))]) [1, 2, 0] rfl ?_
        exact ih q24 (x2 + 1) h F
def f_X0_measureDistances (δ : Row) (σ : Blk) : Option (Row) :=
  f_X0_measureDistances_L2 σ FU δ 0
set_option maxHeartbeats 4000000 in
set_option maxRecDepth 100000 in
theorem c_X0_measureDistances (l : Launch) (g : Gl) (a : Nat → Nat) (a2 : Nat → Nat) (δ : Row) (σ : Blk) {res : Row} (h : f_X0_measureDistances δ σ = some res) : Ok l g yX0_measureDistances cX0_measureDistances 4 (Option.none : Option FieldType) 5 115 [.ref (a 0), .ref (a2 0)] (wCl g a δ ++ wSt g a2 σ) none (wCl g a res ++ wSt g a2 σ) := by
  refine Ok.of RX0 (by decide) rfl (Nat.le_of_ble_eq_true rfl) (fun x hl hg X F => ?_)
  subst hg; subst hl
  rw [f_X0_measureDistances] at h
  show V x (wCl x.g a δ ++ wSt x.g a2 σ) [(0, .ref (a 0)), (1, .ref (a2 0))] [] 0
  refine v_iconst X (pc := 0) (v := 0) dX0_measureDistances_0 (by decide) ?_
  refine v_istore_n X (pc := 1) (L2 := [(2, .int 0), (0, .ref (a 0)), (1, .ref (a2 0))]) dX0_measureDistances_1 rfl (by decide) rfl ?_
  refine v_sub (L2 := [(0, .ref (a 0)), (1, .ref (a2 0)), (2, .int 0)]) [1, 2, 0] rfl ?_
  exact v_X0_measureDistances_L2 X a a2 σ FU δ 0 h F
theorem cw_X0_measureDistances : CwB yX0_measureDistances cX0_measureDistances 4 (Option.none : Option FieldType) 1 := ⟨q_420, q_18, by decide, by decide, by decide +kernel⟩
def f_X0_distanceOrNone (δ : Row) (σ : Blk) (x2 : Int32) : Option (Int32 × Row) :=
  (f_X0_measureDistances δ σ).bind fun q2 => (f_X5_at 6 q2 x2).bind fun q10 => (if q10 = 1000 then some ((-100005), q2) else some (q10, q2))
set_option maxHeartbeats 4000000 in
set_option maxRecDepth 100000 in
theorem c_X0_distanceOrNone (l : Launch) (g : Gl) (a : Nat → Nat) (a2 : Nat → Nat) (δ : Row) (σ : Blk) (x2 : Int32) {res : Int32 × Row} (h : f_X0_distanceOrNone δ σ x2 = some res) : Ok l g yX0_distanceOrNone cX0_distanceOrNone 4 (Option.some FieldType.int) 6 138 [.ref (a 0), .ref (a2 0), .int x2] (wCl g a δ ++ wSt g a2 σ) (some (.int res.1)) (wCl g a res.2 ++ wSt g a2 σ) := by
  refine Ok.of RX0 (by decide) rfl (Nat.le_of_ble_eq_true rfl) (fun x hl hg X F => ?_)
  subst hg; subst hl
  rw [f_X0_distanceOrNone] at h
  show V x (wCl x.g a δ ++ wSt x.g a2 σ) [(0, .ref (a 0)), (1, .ref (a2 0)), (2, .int x2)] [] 0
  refine v_aload_n X (pc := 0) dX0_distanceOrNone_0 rfl 0 rfl ?_
  refine v_aload_n X (pc := 1) dX0_distanceOrNone_1 rfl 1 rfl ?_
  obtain ⟨q2, e2, h⟩ := ob h
  refine v_callV X (pc := 2) (st1 := []) (w' := (wCl x.g a q2 ++ wSt x.g a2 σ)) [.ref (a2 0)] [] (c_X0_measureDistances x.l x.g a a2 δ σ e2) rfl rfl cw_X0_measureDistances q_417 q_419 q_5 ⟨by decide, by decide⟩ 0 0 rfl rfl rfl (Fr.all rfl) rfl (Nat.le_of_ble_eq_true rfl) dX0_distanceOrNone_2 ?_
  refine v_aload_n X (pc := 5) dX0_distanceOrNone_5 rfl 0 rfl ?_
  refine v_get X (pc := 6) (v := .ref (a 1)) uw0 0 rfl rfl 0 (by decide) q_131 rfl rfl dX0_distanceOrNone_6 ?_
  refine v_iload_n X (pc := 9) dX0_distanceOrNone_9 rfl 2 rfl ?_
  obtain ⟨q10, e10, h⟩ := ob h
  refine v_callSN X (pc := 10) (st1 := [.int q10]) (w' := (wCl x.g a q2 ++ wSt x.g a2 σ)) [.ref (a 1), .int x2] [] (c_X5_at x.l x.g (a 1) 6 q2 x2 e10) rfl rfl cw_X5_at k_30 q_221 ⟨by decide, by decide⟩ (Fr.of [1] rfl rfl rfl rfl rfl) rfl (Nat.le_of_ble_eq_true rfl) dX0_distanceOrNone_10 ?_
  refine v_istore_n X (pc := 13) (L2 := [(3, .int q10), (0, .ref (a 0)), (1, .ref (a2 0)), (2, .int x2)]) dX0_distanceOrNone_13 rfl (by decide) rfl ?_
  refine v_iload_n X (pc := 14) dX0_distanceOrNone_14 rfl 0 rfl ?_
  refine v_sipush X (pc := 15) (v := 1000) dX0_distanceOrNone_15 (by decide) ?_
  refine v_icmpne X (pc := 18) (tgt := 26) dX0_distanceOrNone_18 (by decide) (fun c => ?_) (fun c => ?_)
  · replace h := hn c h
    refine v_iload_n X (pc := 26) dX0_distanceOrNone_26 rfl 0 rfl ?_
    replace h := oi h
    subst h
    exact v_iret X (pc := 27) F dX0_distanceOrNone_27
  · replace h := hp c h
    refine v_ldc X (pc := 21) (v := (-100005)) q_515 dX0_distanceOrNone_21 ?_
    refine v_goto X (pc := 23) (tgt := 27) dX0_distanceOrNone_23 (by decide) ?_
    replace h := oi h
    subst h
    exact v_iret X (pc := 27) F dX0_distanceOrNone_27
theorem cw_X0_distanceOrNone : CwB yX0_distanceOrNone cX0_distanceOrNone 4 (Option.some FieldType.int) 2 := ⟨q_514, q_18, by decide, by decide, by decide +kernel⟩
def f_X0_leaveThrough (δ : Row) (σ : Blk) (x2 : Int32) (x3 : Bool) : Option (Int32 × Blk) :=
  (f_X4_hallBehind σ x2 x3).bind fun q7 => (f_X5_at 6 δ q7).bind fun q10 => (f_X4_hallAhead σ x2 x3).bind fun q22 => (f_X5_at 6 δ q22).bind fun q25 => (if q10 = (q25 + 1) then (f_X4_mostThrough σ x2 x3).bind fun q48 => (if (minF (σ 0 1) q48) ≤ 0 then some ((minF (σ 0 1) q48), σ) else (f_X4_letThrough σ x2 x3 (minF (σ 0 1) q48)).bind fun q66 => some ((minF (σ 0 1) q48), q66)) else some (0, σ))
set_option maxHeartbeats 4000000 in
set_option maxRecDepth 100000 in
theorem c_X0_leaveThrough (l : Launch) (g : Gl) (a : Nat → Nat) (a2 : Nat → Nat) (δ : Row) (σ : Blk) (x2 : Int32) (x3 : Bool) {res : Int32 × Blk} (h : f_X0_leaveThrough δ σ x2 x3 = some res) : Ok l g yX0_leaveThrough cX0_leaveThrough 7 (Option.some FieldType.int) 4 94 [.ref (a 0), .ref (a2 0), .int x2, .int (b2i x3)] (wCl g a δ ++ wSt g a2 σ) (some (.int res.1)) (wCl g a δ ++ wSt g a2 res.2) := by
  refine Ok.of RX0 (by decide) rfl (Nat.le_of_ble_eq_true rfl) (fun x hl hg X F => ?_)
  subst hg; subst hl
  rw [f_X0_leaveThrough] at h
  show V x (wCl x.g a δ ++ wSt x.g a2 σ) [(0, .ref (a 0)), (1, .ref (a2 0)), (2, .int x2), (3, .int (b2i x3))] [] 0
  refine v_aload_n X (pc := 0) dX0_leaveThrough_0 rfl 0 rfl ?_
  refine v_get X (pc := 1) (v := .ref (a 1)) uw0 0 rfl rfl 0 (by decide) q_131 rfl rfl dX0_leaveThrough_1 ?_
  refine v_aload_n X (pc := 4) dX0_leaveThrough_4 rfl 1 rfl ?_
  refine v_iload_n X (pc := 5) dX0_leaveThrough_5 rfl 2 rfl ?_
  refine v_iload_n X (pc := 6) dX0_leaveThrough_6 rfl 3 rfl ?_
  obtain ⟨q7, e7, h⟩ := ob h
  refine v_callV X (pc := 7) (st1 := [.int q7, .ref (a 1)]) (w' := (wCl x.g a δ ++ wSt x.g a2 σ)) [.int x2, .int (b2i x3)] [.ref (a 1)] (c_X4_hallBehind x.l x.g a2 σ x2 x3 e7) rfl rfl cw_X4_hallBehind q_435 q_436 q_437 ⟨by decide, by decide⟩ 2 4 rfl rfl rfl (Fr.of [2, 3, 4, 5, 6, 7, 8, 9, 10, 11, 12, 13] rfl rfl rfl rfl rfl) rfl (Nat.le_of_ble_eq_true rfl) dX0_leaveThrough_7 ?_
  obtain ⟨q10, e10, h⟩ := ob h
  refine v_callSN X (pc := 10) (st1 := [.int q10]) (w' := (wCl x.g a δ ++ wSt x.g a2 σ)) [.ref (a 1), .int q7] [] (c_X5_at x.l x.g (a 1) 6 δ q7 e10) rfl rfl cw_X5_at k_30 q_221 ⟨by decide, by decide⟩ (Fr.of [1] rfl rfl rfl rfl rfl) rfl (Nat.le_of_ble_eq_true rfl) dX0_leaveThrough_10 ?_
  refine v_istore X (pc := 13) (L2 := [(4, .int q10), (0, .ref (a 0)), (1, .ref (a2 0)), (2, .int x2), (3, .int (b2i x3))]) dX0_leaveThrough_13 (by decide) rfl ?_
  refine v_aload_n X (pc := 15) dX0_leaveThrough_15 rfl 1 rfl ?_
  refine v_get X (pc := 16) (v := .ref (a 1)) uw0 0 rfl rfl 0 (by decide) q_131 rfl rfl dX0_leaveThrough_16 ?_
  refine v_aload_n X (pc := 19) dX0_leaveThrough_19 rfl 2 rfl ?_
  refine v_iload_n X (pc := 20) dX0_leaveThrough_20 rfl 3 rfl ?_
  refine v_iload_n X (pc := 21) dX0_leaveThrough_21 rfl 4 rfl ?_
  obtain ⟨q22, e22, h⟩ := ob h
  refine v_callV X (pc := 22) (st1 := [.int q22, .ref (a 1)]) (w' := (wCl x.g a δ ++ wSt x.g a2 σ)) [.int x2, .int (b2i x3)] [.ref (a 1)] (c_X4_hallAhead x.l x.g a2 σ x2 x3 e22) rfl rfl cw_X4_hallAhead q_439 q_440 q_441 ⟨by decide, by decide⟩ 2 4 rfl rfl rfl (Fr.of [2, 3, 4, 5, 6, 7, 8, 9, 10, 11, 12, 13] rfl rfl rfl rfl rfl) rfl (Nat.le_of_ble_eq_true rfl) dX0_leaveThrough_22 ?_
  obtain ⟨q25, e25, h⟩ := ob h
  refine v_callSN X (pc := 25) (st1 := [.int q25]) (w' := (wCl x.g a δ ++ wSt x.g a2 σ)) [.ref (a 1), .int q22] [] (c_X5_at x.l x.g (a 1) 6 δ q22 e25) rfl rfl cw_X5_at k_30 q_221 ⟨by decide, by decide⟩ (Fr.of [1] rfl rfl rfl rfl rfl) rfl (Nat.le_of_ble_eq_true rfl) dX0_leaveThrough_25 ?_
  refine v_istore X (pc := 28) (L2 := [(5, .int q25), (4, .int q10), (0, .ref (a 0)), (1, .ref (a2 0)), (2, .int x2), (3, .int (b2i x3))]) dX0_leaveThrough_28 (by decide) rfl ?_
  refine v_iload X (pc := 30) dX0_leaveThrough_30 1 rfl ?_
  refine v_iload X (pc := 32) dX0_leaveThrough_32 0 rfl ?_
  refine v_iconst X (pc := 34) (v := 1) dX0_leaveThrough_34 (by decide) ?_
  refine v_iadd X (pc := 35) dX0_leaveThrough_35 ?_
  refine v_icmpeq X (pc := 36) (tgt := 41) dX0_leaveThrough_36 (by decide) (fun c => ?_) (fun c => ?_)
  · replace h := hp c h
    refine v_aload_n X (pc := 41) dX0_leaveThrough_41 rfl 3 rfl ?_
    refine v_getN X (pc := 42) (v := .int (σ 0 1)) uw4 2 rfl rfl 8 (by decide) k_13 rfl rfl dX0_leaveThrough_42 ?_
    refine v_aload_n X (pc := 45) dX0_leaveThrough_45 rfl 3 rfl ?_
    refine v_iload_n X (pc := 46) dX0_leaveThrough_46 rfl 4 rfl ?_
    refine v_iload_n X (pc := 47) dX0_leaveThrough_47 rfl 5 rfl ?_
    obtain ⟨q48, e48, h⟩ := ob h
    refine v_callV X (pc := 48) (st1 := [.int q48, .int (σ 0 1)]) (w' := (wCl x.g a δ ++ wSt x.g a2 σ)) [.int x2, .int (b2i x3)] [.int (σ 0 1)] (c_X4_mostThrough x.l x.g a2 σ x2 x3 e48) rfl rfl cw_X4_mostThrough q_449 q_450 q_451 ⟨by decide, by decide⟩ 2 4 rfl rfl rfl (Fr.of [2, 3, 4, 5, 6, 7, 8, 9, 10, 11, 12, 13] rfl rfl rfl rfl rfl) rfl (Nat.le_of_ble_eq_true rfl) dX0_leaveThrough_48 ?_
    refine v_mmin X (pc := 51)  q_466 q_459 q_20 q_460 (by decide) (Nat.le_of_ble_eq_true rfl) dX0_leaveThrough_51 ?_
    refine v_istore X (pc := 54) (L2 := [(6, .int (minF (σ 0 1) q48)), (5, .int q25), (4, .int q10), (0, .ref (a 0)), (1, .ref (a2 0)), (2, .int x2), (3, .int (b2i x3))]) dX0_leaveThrough_54 (by decide) rfl ?_
    refine v_iload X (pc := 56) dX0_leaveThrough_56 0 rfl ?_
    refine v_ifle X (pc := 58) (tgt := 69) dX0_leaveThrough_58 (by decide) (fun c => ?_) (fun c => ?_)
    · replace h := hp c h
      refine v_iload X (pc := 69) dX0_leaveThrough_69 0 rfl ?_
      replace h := oi h
      subst h
      exact v_iret X (pc := 71) F dX0_leaveThrough_71
    · replace h := hn c h
      refine v_aload_n X (pc := 61) dX0_leaveThrough_61 rfl 4 rfl ?_
      refine v_iload_n X (pc := 62) dX0_leaveThrough_62 rfl 5 rfl ?_
      refine v_iload_n X (pc := 63) dX0_leaveThrough_63 rfl 6 rfl ?_
      refine v_iload X (pc := 64) dX0_leaveThrough_64 0 rfl ?_
      obtain ⟨q66, e66, h⟩ := ob h
      refine v_callV X (pc := 66) (st1 := []) (w' := (wCl x.g a δ ++ wSt x.g a2 q66)) [.int x2, .int (b2i x3), .int (minF (σ 0 1) q48)] [] (c_X4_letThrough x.l x.g a2 σ x2 x3 (minF (σ 0 1) q48) e66) rfl rfl cw_X4_letThrough q_467 q_468 q_469 ⟨by decide, by decide⟩ 2 4 rfl rfl rfl (Fr.of [2, 3, 4, 5, 6, 7, 8, 9, 10, 11, 12, 13] rfl rfl rfl rfl rfl) rfl (Nat.le_of_ble_eq_true rfl) dX0_leaveThrough_66 ?_
      refine v_iload X (pc := 69) dX0_leaveThrough_69 0 rfl ?_
      replace h := oi h
      subst h
      exact v_iret X (pc := 71) F dX0_leaveThrough_71
  · replace h := hn c h
    refine v_iconst X (pc := 39) (v := 0) dX0_leaveThrough_39 (by decide) ?_
    replace h := oi h
    subst h
    exact v_iret X (pc := 40) F dX0_leaveThrough_40
theorem cw_X0_leaveThrough : CwB yX0_leaveThrough cX0_leaveThrough 7 (Option.some FieldType.int) 3 := ⟨q_448, q_18, by decide, by decide, by decide +kernel⟩
def f_X0_closeForAnHour_L9 (δ : Row) : Nat → Blk → Int32 → Int32 → Option (Int32 × Row × Blk)
  | 0, _, _, _ => none
  | n + 1, σ, x2, x3 =>
    (if (σ 0 0) ≤ x3 then (f_X4_letHourPass σ).bind fun q44 => some (x2, δ, q44.2) else (f_X0_leaveThrough δ σ x3 true).bind fun q22 => (f_X0_leaveThrough δ q22.2 x3 false).bind fun q32 => f_X0_closeForAnHour_L9 δ n q32.2 ((x2 + q22.1) + q32.1) (x3 + 1))
set_option maxHeartbeats 4000000 in
set_option maxRecDepth 100000 in
theorem v_X0_closeForAnHour_L9 {x : Ctx} (X : Cx x RX0 cX0_closeForAnHour 4 6 138) (a : Nat → Nat) (a2 : Nat → Nat) (δ : Row) : ∀ (n : Nat) (σ : Blk) (x2 : Int32) (x3 : Int32) {res : Int32 × Row × Blk}, f_X0_closeForAnHour_L9 δ n σ x2 x3 = some res → Fn x (Option.some FieldType.int) (some (.int res.1)) (wCl x.g a res.2.1 ++ wSt x.g a2 res.2.2) → V x (wCl x.g a δ ++ wSt x.g a2 σ) [(0, .ref (a 0)), (1, .ref (a2 0)), (2, .int x2), (3, .int x3)] [] 9 := by
  intro n
  induction n with
  | zero =>
    intro σ x2 x3 res h F
    rw [f_X0_closeForAnHour_L9] at h
    cases h
  | succ n ih =>
    intro σ x2 x3 res h F
    rw [f_X0_closeForAnHour_L9] at h
    refine v_iload_n X (pc := 9) dX0_closeForAnHour_9 rfl 3 rfl ?_
    refine v_aload_n X (pc := 10) dX0_closeForAnHour_10 rfl 1 rfl ?_
    refine v_getN X (pc := 11) (v := .int (σ 0 0)) uw4 2 rfl rfl 7 (by decide) k_12 rfl rfl dX0_closeForAnHour_11 ?_
    refine v_icmpge X (pc := 14) (tgt := 43) dX0_closeForAnHour_14 (by decide) (fun c => ?_) (fun c => ?_)
    · replace h := hp c h
      refine v_aload_n X (pc := 43) dX0_closeForAnHour_43 rfl 1 rfl ?_
      obtain ⟨q44, e44, h⟩ := ob h
      refine v_callV X (pc := 44) (st1 := [.int q44.1]) (w' := (wCl x.g a δ ++ wSt x.g a2 q44.2)) [] [] (c_X4_letHourPass x.l x.g a2 σ e44) rfl rfl cw_X4_letHourPass q_481 q_398 q_399 ⟨by decide, by decide⟩ 2 4 rfl rfl rfl (Fr.of [2, 3, 4, 5, 6, 7, 8, 9, 10, 11, 12, 13] rfl rfl rfl rfl rfl) rfl (Nat.le_of_ble_eq_true rfl) dX0_closeForAnHour_44 ?_
      refine v_pop X (pc := 47) dX0_closeForAnHour_47 rfl ?_
      refine v_iload_n X (pc := 48) dX0_closeForAnHour_48 rfl 2 rfl ?_
      replace h := oi h
      subst h
      exact v_iret X (pc := 49) F dX0_closeForAnHour_49
    · replace h := hn c h
      refine v_iload_n X (pc := 17) dX0_closeForAnHour_17 rfl 2 rfl ?_
      refine v_aload_n X (pc := 18) dX0_closeForAnHour_18 rfl 0 rfl ?_
      refine v_aload_n X (pc := 19) dX0_closeForAnHour_19 rfl 1 rfl ?_
      refine v_iload_n X (pc := 20) dX0_closeForAnHour_20 rfl 3 rfl ?_
      refine v_iconst X (pc := 21) (v := 1) dX0_closeForAnHour_21 (by decide) ?_
      obtain ⟨q22, e22, h⟩ := ob h
      refine v_callV X (pc := 22) (st1 := [.int q22.1, .int x2]) (w' := (wCl x.g a δ ++ wSt x.g a2 q22.2)) [.ref (a2 0), .int x3, .int (b2i true)] [.int x2] (c_X0_leaveThrough x.l x.g a a2 δ σ x3 true e22) rfl rfl cw_X0_leaveThrough q_445 q_447 q_8 ⟨by decide, by decide⟩ 0 0 rfl rfl rfl (Fr.all rfl) rfl (Nat.le_of_ble_eq_true rfl) dX0_closeForAnHour_22 ?_
      refine v_iadd X (pc := 25) dX0_closeForAnHour_25 ?_
      refine v_istore_n X (pc := 26) (L2 := [(2, .int (x2 + q22.1)), (0, .ref (a 0)), (1, .ref (a2 0)), (3, .int x3)]) dX0_closeForAnHour_26 rfl (by decide) rfl ?_
      refine v_iload_n X (pc := 27) dX0_closeForAnHour_27 rfl 0 rfl ?_
      refine v_aload_n X (pc := 28) dX0_closeForAnHour_28 rfl 1 rfl ?_
      refine v_aload_n X (pc := 29) dX0_closeForAnHour_29 rfl 2 rfl ?_
      refine v_iload_n X (pc := 30) dX0_closeForAnHour_30 rfl 3 rfl ?_
      refine v_iconst X (pc := 31) (v := 0) dX0_closeForAnHour_31 (by decide) ?_
      obtain ⟨q32, e32, h⟩ := ob h
      refine v_callV X (pc := 32) (st1 := [.int q32.1, .int (x2 + q22.1)]) (w' := (wCl x.g a δ ++ wSt x.g a2 q32.2)) [.ref (a2 0), .int x3, .int (b2i false)] [.int (x2 + q22.1)] (c_X0_leaveThrough x.l x.g a a2 δ q22.2 x3 false e32) rfl rfl cw_X0_leaveThrough q_445 q_447 q_8 ⟨by decide, by decide⟩ 0 0 rfl rfl rfl (Fr.all rfl) rfl (Nat.le_of_ble_eq_true rfl) dX0_closeForAnHour_32 ?_
      refine v_iadd X (pc := 35) dX0_closeForAnHour_35 ?_
      refine v_istore_n X (pc := 36) (L2 := [(2, .int ((x2 + q22.1) + q32.1)), (0, .ref (a 0)), (1, .ref (a2 0)), (3, .int x3)]) dX0_closeForAnHour_36 rfl (by decide) rfl ?_
      refine v_iinc X (pc := 37) (v := (x3 + 1)) (L2 := [(3, .int (x3 + 1)), (2, .int ((x2 + q22.1) + q32.1)), (0, .ref (a 0)), (1, .ref (a2 0))]) dX0_closeForAnHour_37 3 rfl (by first | rfl | decide) (by decide) rfl ?_
      refine v_goto X (pc := 40) (tgt := 9) dX0_closeForAnHour_40 (by decide) ?_
      refine v_sub (L2 := [(0, .ref (a 0)), (1, .ref (a2 0)), (2, .int ((x2 + q22.1) + q32.1)), (3, .int (x3 + 1))]) [2, 3, 1, 0] rfl ?_
      exact ih q32.2 ((x2 + q22.1) + q32.1) (x3 + 1) h F
def f_X0_closeForAnHour (δ : Row) (σ : Blk) : Option (Int32 × Row × Blk) :=
  (f_X0_measureDistances δ σ).bind fun q2 => f_X0_closeForAnHour_L9 q2 FU σ 0 0
set_option maxHeartbeats 4000000 in
set_option maxRecDepth 100000 in
theorem c_X0_closeForAnHour (l : Launch) (g : Gl) (a : Nat → Nat) (a2 : Nat → Nat) (δ : Row) (σ : Blk) {res : Int32 × Row × Blk} (h : f_X0_closeForAnHour δ σ = some res) : Ok l g yX0_closeForAnHour cX0_closeForAnHour 4 (Option.some FieldType.int) 6 138 [.ref (a 0), .ref (a2 0)] (wCl g a δ ++ wSt g a2 σ) (some (.int res.1)) (wCl g a res.2.1 ++ wSt g a2 res.2.2) := by
  refine Ok.of RX0 (by decide) rfl (Nat.le_of_ble_eq_true rfl) (fun x hl hg X F => ?_)
  subst hg; subst hl
  rw [f_X0_closeForAnHour] at h
  show V x (wCl x.g a δ ++ wSt x.g a2 σ) [(0, .ref (a 0)), (1, .ref (a2 0))] [] 0
  refine v_aload_n X (pc := 0) dX0_closeForAnHour_0 rfl 0 rfl ?_
  refine v_aload_n X (pc := 1) dX0_closeForAnHour_1 rfl 1 rfl ?_
  obtain ⟨q2, e2, h⟩ := ob h
  refine v_callV X (pc := 2) (st1 := []) (w' := (wCl x.g a q2 ++ wSt x.g a2 σ)) [.ref (a2 0)] [] (c_X0_measureDistances x.l x.g a a2 δ σ e2) rfl rfl cw_X0_measureDistances q_417 q_419 q_5 ⟨by decide, by decide⟩ 0 0 rfl rfl rfl (Fr.all rfl) rfl (Nat.le_of_ble_eq_true rfl) dX0_closeForAnHour_2 ?_
  refine v_iconst X (pc := 5) (v := 0) dX0_closeForAnHour_5 (by decide) ?_
  refine v_istore_n X (pc := 6) (L2 := [(2, .int 0), (0, .ref (a 0)), (1, .ref (a2 0))]) dX0_closeForAnHour_6 rfl (by decide) rfl ?_
  refine v_iconst X (pc := 7) (v := 0) dX0_closeForAnHour_7 (by decide) ?_
  refine v_istore_n X (pc := 8) (L2 := [(3, .int 0), (2, .int 0), (0, .ref (a 0)), (1, .ref (a2 0))]) dX0_closeForAnHour_8 rfl (by decide) rfl ?_
  refine v_sub (L2 := [(0, .ref (a 0)), (1, .ref (a2 0)), (2, .int 0), (3, .int 0)]) [2, 3, 1, 0] rfl ?_
  exact v_X0_closeForAnHour_L9 X a a2 q2 FU σ 0 0 h F
theorem cw_X0_closeForAnHour : CwB yX0_closeForAnHour cX0_closeForAnHour 4 (Option.some FieldType.int) 1 := ⟨q_416, q_18, by decide, by decide, by decide +kernel⟩
