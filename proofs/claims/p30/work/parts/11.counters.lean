def f_X1_copyFrom (σ : Blk) (τ : Blk) : Option (Blk) :=
  (f_X5_copyRow 48 48 (τ 7) (σ 7)).bind fun q8 => lt (upR σ 7 q8) fun m8 => (f_X5_copyRow 48 48 (τ 8) (m8 8)).bind fun q19 => lt (upR m8 8 q19) fun m19 => (f_X5_copyRow 48 48 (τ 9) (m19 9)).bind fun q30 => lt (upR m19 9 q30) fun m30 => (f_X5_copyRow 48 48 (τ 10) (m30 10)).bind fun q41 => lt (upR m30 10 q41) fun m41 => some m41
set_option maxHeartbeats 4000000 in
set_option maxRecDepth 100000 in
theorem c_X1_copyFrom (l : Launch) (g : Gl) (a : Nat → Nat) (a2 : Nat → Nat) (σ : Blk) (τ : Blk) {res : Blk} (h : f_X1_copyFrom σ τ = some res) : Ok l g yX1_copyFrom cX1_copyFrom 2 (Option.none : Option FieldType) 1 22 [.ref (a 11), .ref (a2 11)] (wSt g a σ ++ wSt g a2 τ) none (wSt g a res ++ wSt g a2 τ) := by
  refine Ok.of RX1 (by decide) rfl (Nat.le_of_ble_eq_true rfl) (fun x hl hg X F => ?_)
  subst hg; subst hl
  rw [f_X1_copyFrom] at h
  show V x (wSt x.g a σ ++ wSt x.g a2 τ) [(0, .ref (a 11)), (1, .ref (a2 11))] [] 0
  refine v_aload_n X (pc := 0) dX1_copyFrom_0 rfl 1 rfl ?_
  refine v_get X (pc := 1) (v := .ref (a2 7)) uw1 23 rfl rfl 0 (by decide) q_41 rfl rfl dX1_copyFrom_1 ?_
  refine v_aload_n X (pc := 4) dX1_copyFrom_4 rfl 0 rfl ?_
  refine v_get X (pc := 5) (v := .ref (a 7)) uw1 11 rfl rfl 0 (by decide) q_41 rfl rfl dX1_copyFrom_5 ?_
  obtain ⟨q8, e8, h⟩ := ob h
  obtain ⟨m8, em8, h⟩ := lts h
  refine v_callSN X (pc := 8) (st1 := []) (w' := (wSt x.g a m8 ++ wSt x.g a2 τ)) [.ref (a2 7), .ref (a 7)] [] (c_X5_copyRow x.l x.g (a2 7) (a 7) 48 48 (τ 7) (σ 7) e8) rfl rfl cw_X5_copyRow k_22 q_201 ⟨by decide, by decide⟩ (by rw [← em8]; exact (Fr.of [19, 7] rfl rfl rfl rfl rfl)) rfl (Nat.le_of_ble_eq_true rfl) dX1_copyFrom_8 ?_
  refine v_aload_n X (pc := 11) dX1_copyFrom_11 rfl 1 rfl ?_
  refine v_get X (pc := 12) (v := .ref (a2 8)) uw1 23 rfl rfl 1 (by decide) q_43 rfl rfl dX1_copyFrom_12 ?_
  refine v_aload_n X (pc := 15) dX1_copyFrom_15 rfl 0 rfl ?_
  refine v_get X (pc := 16) (v := .ref (a 8)) uw1 11 rfl rfl 1 (by decide) q_43 rfl rfl dX1_copyFrom_16 ?_
  obtain ⟨q19, e19, h⟩ := ob h
  obtain ⟨m19, em19, h⟩ := lts h
  refine v_callSN X (pc := 19) (st1 := []) (w' := (wSt x.g a m19 ++ wSt x.g a2 τ)) [.ref (a2 8), .ref (a 8)] [] (c_X5_copyRow x.l x.g (a2 8) (a 8) 48 48 (τ 8) (m8 8) e19) rfl rfl cw_X5_copyRow k_22 q_201 ⟨by decide, by decide⟩ (by rw [← em19]; exact (Fr.of [20, 8] rfl rfl rfl rfl rfl)) rfl (Nat.le_of_ble_eq_true rfl) dX1_copyFrom_19 ?_
  refine v_aload_n X (pc := 22) dX1_copyFrom_22 rfl 1 rfl ?_
  refine v_get X (pc := 23) (v := .ref (a2 9)) uw1 23 rfl rfl 2 (by decide) q_45 rfl rfl dX1_copyFrom_23 ?_
  refine v_aload_n X (pc := 26) dX1_copyFrom_26 rfl 0 rfl ?_
  refine v_get X (pc := 27) (v := .ref (a 9)) uw1 11 rfl rfl 2 (by decide) q_45 rfl rfl dX1_copyFrom_27 ?_
  obtain ⟨q30, e30, h⟩ := ob h
  obtain ⟨m30, em30, h⟩ := lts h
  refine v_callSN X (pc := 30) (st1 := []) (w' := (wSt x.g a m30 ++ wSt x.g a2 τ)) [.ref (a2 9), .ref (a 9)] [] (c_X5_copyRow x.l x.g (a2 9) (a 9) 48 48 (τ 9) (m19 9) e30) rfl rfl cw_X5_copyRow k_22 q_201 ⟨by decide, by decide⟩ (by rw [← em30]; exact (Fr.of [21, 9] rfl rfl rfl rfl rfl)) rfl (Nat.le_of_ble_eq_true rfl) dX1_copyFrom_30 ?_
  refine v_aload_n X (pc := 33) dX1_copyFrom_33 rfl 1 rfl ?_
  refine v_get X (pc := 34) (v := .ref (a2 10)) uw1 23 rfl rfl 3 (by decide) q_46 rfl rfl dX1_copyFrom_34 ?_
  refine v_aload_n X (pc := 37) dX1_copyFrom_37 rfl 0 rfl ?_
  refine v_get X (pc := 38) (v := .ref (a 10)) uw1 11 rfl rfl 3 (by decide) q_46 rfl rfl dX1_copyFrom_38 ?_
  obtain ⟨q41, e41, h⟩ := ob h
  obtain ⟨m41, em41, h⟩ := lts h
  refine v_callSN X (pc := 41) (st1 := []) (w' := (wSt x.g a m41 ++ wSt x.g a2 τ)) [.ref (a2 10), .ref (a 10)] [] (c_X5_copyRow x.l x.g (a2 10) (a 10) 48 48 (τ 10) (m30 10) e41) rfl rfl cw_X5_copyRow k_22 q_201 ⟨by decide, by decide⟩ (by rw [← em41]; exact (Fr.of [22, 10] rfl rfl rfl rfl rfl)) rfl (Nat.le_of_ble_eq_true rfl) dX1_copyFrom_41 ?_
  replace h := oi h
  subst h
  exact v_vret X (pc := 44) F dX1_copyFrom_44
theorem cw_X1_copyFrom : CwB yX1_copyFrom cX1_copyFrom 2 (Option.none : Option FieldType) 1 := ⟨q_206, q_16, by decide, by decide, by decide +kernel⟩
def f_X1_beginAnew (σ : Blk) (x1 : Int32) (x2 : Int32) : Option (Blk) :=
  (f_X5_put 48 (σ 8) x1 x2).bind fun q6 => lt (upR σ 8 q6) fun m6 => (f_X5_put 48 (m6 9) x1 0).bind fun q15 => lt (upR m6 9 q15) fun m15 => some m15
set_option maxHeartbeats 4000000 in
set_option maxRecDepth 100000 in
theorem c_X1_beginAnew (l : Launch) (g : Gl) (a : Nat → Nat) (σ : Blk) (x1 : Int32) (x2 : Int32) {res : Blk} (h : f_X1_beginAnew σ x1 x2 = some res) : Ok l g yX1_beginAnew cX1_beginAnew 3 (Option.none : Option FieldType) 1 22 [.ref (a 11), .int x1, .int x2] (wSt g a σ) none (wSt g a res) := by
  refine Ok.of RX1 (by decide) rfl (Nat.le_of_ble_eq_true rfl) (fun x hl hg X F => ?_)
  subst hg; subst hl
  rw [f_X1_beginAnew] at h
  show V x (wSt x.g a σ) [(0, .ref (a 11)), (1, .int x1), (2, .int x2)] [] 0
  refine v_aload_n X (pc := 0) dX1_beginAnew_0 rfl 0 rfl ?_
  refine v_get X (pc := 1) (v := .ref (a 8)) uw1 11 rfl rfl 1 (by decide) q_43 rfl rfl dX1_beginAnew_1 ?_
  refine v_iload_n X (pc := 4) dX1_beginAnew_4 rfl 1 rfl ?_
  refine v_iload_n X (pc := 5) dX1_beginAnew_5 rfl 2 rfl ?_
  obtain ⟨q6, e6, h⟩ := ob h
  obtain ⟨m6, em6, h⟩ := lts h
  refine v_callSN X (pc := 6) (st1 := []) (w' := (wSt x.g a m6)) [.ref (a 8), .int x1, .int x2] [] (c_X5_put x.l x.g (a 8) 48 (σ 8) x1 x2 e6) rfl rfl cw_X5_put k_27 q_329 ⟨by decide, by decide⟩ (by rw [← em6]; exact (Fr.of [8] rfl rfl rfl rfl rfl)) rfl (Nat.le_of_ble_eq_true rfl) dX1_beginAnew_6 ?_
  refine v_aload_n X (pc := 9) dX1_beginAnew_9 rfl 0 rfl ?_
  refine v_get X (pc := 10) (v := .ref (a 9)) uw1 11 rfl rfl 2 (by decide) q_45 rfl rfl dX1_beginAnew_10 ?_
  refine v_iload_n X (pc := 13) dX1_beginAnew_13 rfl 1 rfl ?_
  refine v_iconst X (pc := 14) (v := 0) dX1_beginAnew_14 (by decide) ?_
  obtain ⟨q15, e15, h⟩ := ob h
  obtain ⟨m15, em15, h⟩ := lts h
  refine v_callSN X (pc := 15) (st1 := []) (w' := (wSt x.g a m15)) [.ref (a 9), .int x1, .int 0] [] (c_X5_put x.l x.g (a 9) 48 (m6 9) x1 0 e15) rfl rfl cw_X5_put k_27 q_329 ⟨by decide, by decide⟩ (by rw [← em15]; exact (Fr.of [9] rfl rfl rfl rfl rfl)) rfl (Nat.le_of_ble_eq_true rfl) dX1_beginAnew_15 ?_
  replace h := oi h
  subst h
  exact v_vret X (pc := 18) F dX1_beginAnew_18
theorem cw_X1_beginAnew : CwB yX1_beginAnew cX1_beginAnew 3 (Option.none : Option FieldType) 2 := ⟨q_357, q_16, by decide, by decide, by decide +kernel⟩
def f_X1_seePeople (σ : Blk) (x1 : Int32) (x2 : Int32) : Option (Blk) :=
  (f_X5_at 48 (σ 8) x1).bind fun q5 => (if q5 ≤ 0 then (f_X5_add 48 (σ 7) x1 (x2 - 0)).bind fun q55 => lt (upR σ 7 q55) fun m55 => (f_X5_add 48 (m55 10) x1 0).bind fun q65 => lt (upR m55 10 q65) fun m65 => some m65 else (f_X5_at 48 (σ 9) x1).bind fun q21 => (if ¬ q5 = 0 then (if ¬ q5 = 0 then (f_X5_put 48 (σ 9) x1 ((q21 + x2) - (q21 + x2) / q5 * q5)).bind fun q43 => lt (upR σ 9 q43) fun m43 => (f_X5_add 48 (m43 7) x1 (x2 - ((q21 + x2) / q5))).bind fun q55 => lt (upR m43 7 q55) fun m55 => (f_X5_add 48 (m55 10) x1 ((q21 + x2) / q5)).bind fun q65 => lt (upR m55 10 q65) fun m65 => some m65 else none) else none))
set_option maxHeartbeats 4000000 in
set_option maxRecDepth 100000 in
theorem c_X1_seePeople (l : Launch) (g : Gl) (a : Nat → Nat) (σ : Blk) (x1 : Int32) (x2 : Int32) {res : Blk} (h : f_X1_seePeople σ x1 x2 = some res) : Ok l g yX1_seePeople cX1_seePeople 6 (Option.none : Option FieldType) 2 44 [.ref (a 11), .int x1, .int x2] (wSt g a σ) none (wSt g a res) := by
  refine Ok.of RX1 (by decide) rfl (Nat.le_of_ble_eq_true rfl) (fun x hl hg X F => ?_)
  subst hg; subst hl
  rw [f_X1_seePeople] at h
  show V x (wSt x.g a σ) [(0, .ref (a 11)), (1, .int x1), (2, .int x2)] [] 0
  refine v_aload_n X (pc := 0) dX1_seePeople_0 rfl 0 rfl ?_
  refine v_get X (pc := 1) (v := .ref (a 8)) uw1 11 rfl rfl 1 (by decide) q_43 rfl rfl dX1_seePeople_1 ?_
  refine v_iload_n X (pc := 4) dX1_seePeople_4 rfl 1 rfl ?_
  obtain ⟨q5, e5, h⟩ := ob h
  refine v_callSN X (pc := 5) (st1 := [.int q5]) (w' := (wSt x.g a σ)) [.ref (a 8), .int x1] [] (c_X5_at x.l x.g (a 8) 48 (σ 8) x1 e5) rfl rfl cw_X5_at k_25 q_221 ⟨by decide, by decide⟩ (Fr.of [8] rfl rfl rfl rfl rfl) rfl (Nat.le_of_ble_eq_true rfl) dX1_seePeople_5 ?_
  refine v_istore_n X (pc := 8) (L2 := [(3, .int q5), (0, .ref (a 11)), (1, .int x1), (2, .int x2)]) dX1_seePeople_8 rfl (by decide) rfl ?_
  refine v_iconst X (pc := 9) (v := 0) dX1_seePeople_9 (by decide) ?_
  refine v_istore X (pc := 10) (L2 := [(4, .int 0), (3, .int q5), (0, .ref (a 11)), (1, .int x1), (2, .int x2)]) dX1_seePeople_10 (by decide) rfl ?_
  refine v_iload_n X (pc := 12) dX1_seePeople_12 rfl 1 rfl ?_
  refine v_ifle X (pc := 13) (tgt := 46) dX1_seePeople_13 (by decide) (fun c => ?_) (fun c => ?_)
  · replace h := hp c h
    refine v_aload_n X (pc := 46) dX1_seePeople_46 rfl 2 rfl ?_
    refine v_get X (pc := 47) (v := .ref (a 7)) uw1 11 rfl rfl 0 (by decide) q_41 rfl rfl dX1_seePeople_47 ?_
    refine v_iload_n X (pc := 50) dX1_seePeople_50 rfl 3 rfl ?_
    refine v_iload_n X (pc := 51) dX1_seePeople_51 rfl 4 rfl ?_
    refine v_iload X (pc := 52) dX1_seePeople_52 0 rfl ?_
    refine v_isub X (pc := 54) dX1_seePeople_54 ?_
    obtain ⟨q55, e55, h⟩ := ob h
    obtain ⟨m55, em55, h⟩ := lts h
    refine v_callSN X (pc := 55) (st1 := []) (w' := (wSt x.g a m55)) [.ref (a 7), .int x1, .int (x2 - 0)] [] (c_X5_add x.l x.g (a 7) 48 (σ 7) x1 (x2 - 0) e55) rfl rfl cw_X5_add k_32 q_402 ⟨by decide, by decide⟩ (by rw [← em55]; exact (Fr.of [7] rfl rfl rfl rfl rfl)) rfl (Nat.le_of_ble_eq_true rfl) dX1_seePeople_55 ?_
    refine v_aload_n X (pc := 58) dX1_seePeople_58 rfl 2 rfl ?_
    refine v_get X (pc := 59) (v := .ref (a 10)) uw1 11 rfl rfl 3 (by decide) q_46 rfl rfl dX1_seePeople_59 ?_
    refine v_iload_n X (pc := 62) dX1_seePeople_62 rfl 3 rfl ?_
    refine v_iload X (pc := 63) dX1_seePeople_63 0 rfl ?_
    obtain ⟨q65, e65, h⟩ := ob h
    obtain ⟨m65, em65, h⟩ := lts h
    refine v_callSN X (pc := 65) (st1 := []) (w' := (wSt x.g a m65)) [.ref (a 10), .int x1, .int 0] [] (c_X5_add x.l x.g (a 10) 48 (m55 10) x1 0 e65) rfl rfl cw_X5_add k_32 q_402 ⟨by decide, by decide⟩ (by rw [← em65]; exact (Fr.of [10] rfl rfl rfl rfl rfl)) rfl (Nat.le_of_ble_eq_true rfl) dX1_seePeople_65 ?_
    replace h := oi h
    subst h
    exact v_vret X (pc := 68) F dX1_seePeople_68
  · replace h := hn c h
    refine v_aload_n X (pc := 16) dX1_seePeople_16 rfl 2 rfl ?_
    refine v_get X (pc := 17) (v := .ref (a 9)) uw1 11 rfl rfl 2 (by decide) q_45 rfl rfl dX1_seePeople_17 ?_
    refine v_iload_n X (pc := 20) dX1_seePeople_20 rfl 3 rfl ?_
    obtain ⟨q21, e21, h⟩ := ob h
    refine v_callSN X (pc := 21) (st1 := [.int q21]) (w' := (wSt x.g a σ)) [.ref (a 9), .int x1] [] (c_X5_at x.l x.g (a 9) 48 (σ 9) x1 e21) rfl rfl cw_X5_at k_25 q_221 ⟨by decide, by decide⟩ (Fr.of [9] rfl rfl rfl rfl rfl) rfl (Nat.le_of_ble_eq_true rfl) dX1_seePeople_21 ?_
    refine v_iload_n X (pc := 24) dX1_seePeople_24 rfl 4 rfl ?_
    refine v_iadd X (pc := 25) dX1_seePeople_25 ?_
    refine v_istore X (pc := 26) (L2 := [(5, .int (q21 + x2)), (4, .int 0), (3, .int q5), (0, .ref (a 11)), (1, .int x1), (2, .int x2)]) dX1_seePeople_26 (by decide) rfl ?_
    refine v_iload X (pc := 28) dX1_seePeople_28 0 rfl ?_
    refine v_iload_n X (pc := 30) dX1_seePeople_30 rfl 2 rfl ?_
    obtain ⟨g31, h⟩ := og h
    refine v_idiv X (pc := 31) dX1_seePeople_31 g31 ?_
    refine v_istore X (pc := 32) (L2 := [(4, .int ((q21 + x2) / q5)), (5, .int (q21 + x2)), (3, .int q5), (0, .ref (a 11)), (1, .int x1), (2, .int x2)]) dX1_seePeople_32 (by decide) rfl ?_
    refine v_aload_n X (pc := 34) dX1_seePeople_34 rfl 3 rfl ?_
    refine v_get X (pc := 35) (v := .ref (a 9)) uw1 11 rfl rfl 2 (by decide) q_45 rfl rfl dX1_seePeople_35 ?_
    refine v_iload_n X (pc := 38) dX1_seePeople_38 rfl 4 rfl ?_
    refine v_iload X (pc := 39) dX1_seePeople_39 1 rfl ?_
    refine v_iload_n X (pc := 41) dX1_seePeople_41 rfl 2 rfl ?_
    obtain ⟨g42, h⟩ := og h
    refine v_irem X (pc := 42) dX1_seePeople_42 g42 ?_
    obtain ⟨q43, e43, h⟩ := ob h
    obtain ⟨m43, em43, h⟩ := lts h
    refine v_callSN X (pc := 43) (st1 := []) (w' := (wSt x.g a m43)) [.ref (a 9), .int x1, .int ((q21 + x2) - (q21 + x2) / q5 * q5)] [] (c_X5_put x.l x.g (a 9) 48 (σ 9) x1 ((q21 + x2) - (q21 + x2) / q5 * q5) e43) rfl rfl cw_X5_put k_27 q_329 ⟨by decide, by decide⟩ (by rw [← em43]; exact (Fr.of [9] rfl rfl rfl rfl rfl)) rfl (Nat.le_of_ble_eq_true rfl) dX1_seePeople_43 ?_
    refine v_aload_n X (pc := 46) dX1_seePeople_46 rfl 3 rfl ?_
    refine v_get X (pc := 47) (v := .ref (a 7)) uw1 11 rfl rfl 0 (by decide) q_41 rfl rfl dX1_seePeople_47 ?_
    refine v_iload_n X (pc := 50) dX1_seePeople_50 rfl 4 rfl ?_
    refine v_iload_n X (pc := 51) dX1_seePeople_51 rfl 5 rfl ?_
    refine v_iload X (pc := 52) dX1_seePeople_52 0 rfl ?_
    refine v_isub X (pc := 54) dX1_seePeople_54 ?_
    obtain ⟨q55, e55, h⟩ := ob h
    obtain ⟨m55, em55, h⟩ := lts h
    refine v_callSN X (pc := 55) (st1 := []) (w' := (wSt x.g a m55)) [.ref (a 7), .int x1, .int (x2 - ((q21 + x2) / q5))] [] (c_X5_add x.l x.g (a 7) 48 (m43 7) x1 (x2 - ((q21 + x2) / q5)) e55) rfl rfl cw_X5_add k_32 q_402 ⟨by decide, by decide⟩ (by rw [← em55]; exact (Fr.of [7] rfl rfl rfl rfl rfl)) rfl (Nat.le_of_ble_eq_true rfl) dX1_seePeople_55 ?_
    refine v_aload_n X (pc := 58) dX1_seePeople_58 rfl 3 rfl ?_
    refine v_get X (pc := 59) (v := .ref (a 10)) uw1 11 rfl rfl 3 (by decide) q_46 rfl rfl dX1_seePeople_59 ?_
    refine v_iload_n X (pc := 62) dX1_seePeople_62 rfl 4 rfl ?_
    refine v_iload X (pc := 63) dX1_seePeople_63 0 rfl ?_
    obtain ⟨q65, e65, h⟩ := ob h
    obtain ⟨m65, em65, h⟩ := lts h
    refine v_callSN X (pc := 65) (st1 := []) (w' := (wSt x.g a m65)) [.ref (a 10), .int x1, .int ((q21 + x2) / q5)] [] (c_X5_add x.l x.g (a 10) 48 (m55 10) x1 ((q21 + x2) / q5) e65) rfl rfl cw_X5_add k_32 q_402 ⟨by decide, by decide⟩ (by rw [← em65]; exact (Fr.of [10] rfl rfl rfl rfl rfl)) rfl (Nat.le_of_ble_eq_true rfl) dX1_seePeople_65 ?_
    replace h := oi h
    subst h
    exact v_vret X (pc := 68) F dX1_seePeople_68
theorem cw_X1_seePeople : CwB yX1_seePeople cX1_seePeople 6 (Option.none : Option FieldType) 2 := ⟨q_479, q_16, by decide, by decide, by decide +kernel⟩
def f_X1_endSlips_L2 (x1 : Int32) : Nat → Blk → Int32 → Option (Blk)
  | 0, _, _ => none
  | n + 1, σ, x2 =>
    (if 4 ≤ x2 then some σ else lt (f_X5_counterIndex x1 x2) fun q10 => (f_X1_beginAnew σ q10 0).bind fun q14 => f_X1_endSlips_L2 x1 n q14 (x2 + 1))
set_option maxHeartbeats 4000000 in
set_option maxRecDepth 100000 in
theorem v_X1_endSlips_L2 {x : Ctx} (X : Cx x RX1 cX1_endSlips 3 2 44) (a : Nat → Nat) (x1 : Int32) : ∀ (n : Nat) (σ : Blk) (x2 : Int32) {res : Blk}, f_X1_endSlips_L2 x1 n σ x2 = some res → Fn x (Option.none : Option FieldType) none (wSt x.g a res) → V x (wSt x.g a σ) [(0, .ref (a 11)), (1, .int x1), (2, .int x2)] [] 2 := by
  intro n
  induction n with
  | zero =>
    intro σ x2 res h F
    rw [f_X1_endSlips_L2] at h
    cases h
  | succ n ih =>
    intro σ x2 res h F
    rw [f_X1_endSlips_L2] at h
    refine v_iload_n X (pc := 2) dX1_endSlips_2 rfl 2 rfl ?_
    refine v_iconst X (pc := 3) (v := 4) dX1_endSlips_3 (by decide) ?_
    refine v_icmpge X (pc := 4) (tgt := 23) dX1_endSlips_4 (by decide) (fun c => ?_) (fun c => ?_)
    · replace h := hp c h
      replace h := oi h
      subst h
      exact v_vret X (pc := 23) F dX1_endSlips_23
    · replace h := hn c h
      refine v_aload_n X (pc := 7) dX1_endSlips_7 rfl 0 rfl ?_
      refine v_iload_n X (pc := 8) dX1_endSlips_8 rfl 1 rfl ?_
      refine v_iload_n X (pc := 9) dX1_endSlips_9 rfl 2 rfl ?_
      obtain ⟨q10, e10, h⟩ := lts h
      refine v_callSN X (pc := 10) (st1 := [.int q10, .ref (a 11)]) (w' := (wSt x.g a σ)) [.int x1, .int x2] [.ref (a 11)] (c_X5_counterIndex x.l x.g  x1 x2 e10) rfl rfl cw_X5_counterIndex k_24 q_251 ⟨by decide, by decide⟩ Fr.nil rfl (Nat.le_of_ble_eq_true rfl) dX1_endSlips_10 ?_
      refine v_iconst X (pc := 13) (v := 0) dX1_endSlips_13 (by decide) ?_
      obtain ⟨q14, e14, h⟩ := ob h
      refine v_callV X (pc := 14) (st1 := []) (w' := (wSt x.g a q14)) [.int q10, .int 0] [] (c_X1_beginAnew x.l x.g a σ q10 0 e14) rfl rfl cw_X1_beginAnew q_408 q_355 q_356 ⟨by decide, by decide⟩ 11 1 rfl rfl rfl (Fr.all rfl) rfl (Nat.le_of_ble_eq_true rfl) dX1_endSlips_14 ?_
      refine v_iinc X (pc := 17) (v := (x2 + 1)) (L2 := [(2, .int (x2 + 1)), (0, .ref (a 11)), (1, .int x1)]) dX1_endSlips_17 2 rfl (by first | rfl | decide) (by decide) rfl ?_
      refine v_goto X (pc := 20) (tgt := 2) dX1_endSlips_20 (by decide) ?_
      refine v_sub (L2 := [(0, .ref (a 11)), (1, .int x1), (2, .int (x2 + 1))]) [1, 2, 0] rfl ?_
      exact ih q14 (x2 + 1) h F
def f_X1_endSlips (σ : Blk) (x1 : Int32) : Option (Blk) :=
  f_X1_endSlips_L2 x1 FU σ 0
set_option maxHeartbeats 4000000 in
set_option maxRecDepth 100000 in
theorem c_X1_endSlips (l : Launch) (g : Gl) (a : Nat → Nat) (σ : Blk) (x1 : Int32) {res : Blk} (h : f_X1_endSlips σ x1 = some res) : Ok l g yX1_endSlips cX1_endSlips 3 (Option.none : Option FieldType) 2 44 [.ref (a 11), .int x1] (wSt g a σ) none (wSt g a res) := by
  refine Ok.of RX1 (by decide) rfl (Nat.le_of_ble_eq_true rfl) (fun x hl hg X F => ?_)
  subst hg; subst hl
  rw [f_X1_endSlips] at h
  show V x (wSt x.g a σ) [(0, .ref (a 11)), (1, .int x1)] [] 0
  refine v_iconst X (pc := 0) (v := 0) dX1_endSlips_0 (by decide) ?_
  refine v_istore_n X (pc := 1) (L2 := [(2, .int 0), (0, .ref (a 11)), (1, .int x1)]) dX1_endSlips_1 rfl (by decide) rfl ?_
  refine v_sub (L2 := [(0, .ref (a 11)), (1, .int x1), (2, .int 0)]) [1, 2, 0] rfl ?_
  exact v_X1_endSlips_L2 X a x1 FU σ 0 h F
theorem cw_X1_endSlips : CwB yX1_endSlips cX1_endSlips 3 (Option.none : Option FieldType) 1 := ⟨q_407, q_16, by decide, by decide, by decide +kernel⟩
def f_X1_countOf (σ : Blk) (x1 : Int32) (x2 : Int32) : Option (Int32) :=
  lt (f_X5_counterIndex x1 x2) fun q6 => (f_X5_at 48 (σ 7) q6).bind fun q9 => some q9
set_option maxHeartbeats 4000000 in
set_option maxRecDepth 100000 in
theorem c_X1_countOf (l : Launch) (g : Gl) (a : Nat → Nat) (σ : Blk) (x1 : Int32) (x2 : Int32) {res : Int32} (h : f_X1_countOf σ x1 x2 = some res) : Ok l g yX1_countOf cX1_countOf 3 (Option.some FieldType.int) 1 21 [.ref (a 11), .int x1, .int x2] (wSt g a σ) (some (.int res)) (wSt g a σ) := by
  refine Ok.of RX1 (by decide) rfl (Nat.le_of_ble_eq_true rfl) (fun x hl hg X F => ?_)
  subst hg; subst hl
  rw [f_X1_countOf] at h
  show V x (wSt x.g a σ) [(0, .ref (a 11)), (1, .int x1), (2, .int x2)] [] 0
  refine v_aload_n X (pc := 0) dX1_countOf_0 rfl 0 rfl ?_
  refine v_get X (pc := 1) (v := .ref (a 7)) uw1 11 rfl rfl 0 (by decide) q_41 rfl rfl dX1_countOf_1 ?_
  refine v_iload_n X (pc := 4) dX1_countOf_4 rfl 1 rfl ?_
  refine v_iload_n X (pc := 5) dX1_countOf_5 rfl 2 rfl ?_
  obtain ⟨q6, e6, h⟩ := lts h
  refine v_callSN X (pc := 6) (st1 := [.int q6, .ref (a 7)]) (w' := (wSt x.g a σ)) [.int x1, .int x2] [.ref (a 7)] (c_X5_counterIndex x.l x.g  x1 x2 e6) rfl rfl cw_X5_counterIndex k_24 q_251 ⟨by decide, by decide⟩ Fr.nil rfl (Nat.le_of_ble_eq_true rfl) dX1_countOf_6 ?_
  obtain ⟨q9, e9, h⟩ := ob h
  refine v_callSN X (pc := 9) (st1 := [.int q9]) (w' := (wSt x.g a σ)) [.ref (a 7), .int q6] [] (c_X5_at x.l x.g (a 7) 48 (σ 7) q6 e9) rfl rfl cw_X5_at k_25 q_221 ⟨by decide, by decide⟩ (Fr.of [7] rfl rfl rfl rfl rfl) rfl (Nat.le_of_ble_eq_true rfl) dX1_countOf_9 ?_
  replace h := oi h
  subst h
  exact v_iret X (pc := 12) F dX1_countOf_12
theorem cw_X1_countOf : CwB yX1_countOf cX1_countOf 3 (Option.some FieldType.int) 2 := ⟨q_249, q_16, by decide, by decide, by decide +kernel⟩
def f_X1_gapOf (σ : Blk) (x1 : Int32) : Option (Int32) :=
  (f_X1_countOf σ x1 0).bind fun q3 => (f_X1_countOf σ x1 3).bind fun q9 => (f_X1_countOf σ x1 1).bind fun q17 => (f_X1_countOf σ x1 2).bind fun q23 => some ((absF (q3 - q9)) + (absF (q17 - q23)))
set_option maxHeartbeats 4000000 in
set_option maxRecDepth 100000 in
theorem c_X1_gapOf (l : Launch) (g : Gl) (a : Nat → Nat) (σ : Blk) (x1 : Int32) {res : Int32} (h : f_X1_gapOf σ x1 = some res) : Ok l g yX1_gapOf cX1_gapOf 4 (Option.some FieldType.int) 2 43 [.ref (a 11), .int x1] (wSt g a σ) (some (.int res)) (wSt g a σ) := by
  refine Ok.of RX1 (by decide) rfl (Nat.le_of_ble_eq_true rfl) (fun x hl hg X F => ?_)
  subst hg; subst hl
  rw [f_X1_gapOf] at h
  show V x (wSt x.g a σ) [(0, .ref (a 11)), (1, .int x1)] [] 0
  refine v_aload_n X (pc := 0) dX1_gapOf_0 rfl 0 rfl ?_
  refine v_iload_n X (pc := 1) dX1_gapOf_1 rfl 1 rfl ?_
  refine v_iconst X (pc := 2) (v := 0) dX1_gapOf_2 (by decide) ?_
  obtain ⟨q3, e3, h⟩ := ob h
  refine v_callV X (pc := 3) (st1 := [.int q3]) (w' := (wSt x.g a σ)) [.int x1, .int 0] [] (c_X1_countOf x.l x.g a σ x1 0 e3) rfl rfl cw_X1_countOf q_246 q_247 q_248 ⟨by decide, by decide⟩ 11 1 rfl rfl rfl (Fr.all rfl) rfl (Nat.le_of_ble_eq_true rfl) dX1_gapOf_3 ?_
  refine v_aload_n X (pc := 6) dX1_gapOf_6 rfl 0 rfl ?_
  refine v_iload_n X (pc := 7) dX1_gapOf_7 rfl 1 rfl ?_
  refine v_iconst X (pc := 8) (v := 3) dX1_gapOf_8 (by decide) ?_
  obtain ⟨q9, e9, h⟩ := ob h
  refine v_callV X (pc := 9) (st1 := [.int q9, .int q3]) (w' := (wSt x.g a σ)) [.int x1, .int 3] [.int q3] (c_X1_countOf x.l x.g a σ x1 3 e9) rfl rfl cw_X1_countOf q_246 q_247 q_248 ⟨by decide, by decide⟩ 11 1 rfl rfl rfl (Fr.all rfl) rfl (Nat.le_of_ble_eq_true rfl) dX1_gapOf_9 ?_
  refine v_isub X (pc := 12) dX1_gapOf_12 ?_
  refine v_istore_n X (pc := 13) (L2 := [(2, .int (q3 - q9)), (0, .ref (a 11)), (1, .int x1)]) dX1_gapOf_13 rfl (by decide) rfl ?_
  refine v_aload_n X (pc := 14) dX1_gapOf_14 rfl 1 rfl ?_
  refine v_iload_n X (pc := 15) dX1_gapOf_15 rfl 2 rfl ?_
  refine v_iconst X (pc := 16) (v := 1) dX1_gapOf_16 (by decide) ?_
  obtain ⟨q17, e17, h⟩ := ob h
  refine v_callV X (pc := 17) (st1 := [.int q17]) (w' := (wSt x.g a σ)) [.int x1, .int 1] [] (c_X1_countOf x.l x.g a σ x1 1 e17) rfl rfl cw_X1_countOf q_246 q_247 q_248 ⟨by decide, by decide⟩ 11 1 rfl rfl rfl (Fr.all rfl) rfl (Nat.le_of_ble_eq_true rfl) dX1_gapOf_17 ?_
  refine v_aload_n X (pc := 20) dX1_gapOf_20 rfl 1 rfl ?_
  refine v_iload_n X (pc := 21) dX1_gapOf_21 rfl 2 rfl ?_
  refine v_iconst X (pc := 22) (v := 2) dX1_gapOf_22 (by decide) ?_
  obtain ⟨q23, e23, h⟩ := ob h
  refine v_callV X (pc := 23) (st1 := [.int q23, .int q17]) (w' := (wSt x.g a σ)) [.int x1, .int 2] [.int q17] (c_X1_countOf x.l x.g a σ x1 2 e23) rfl rfl cw_X1_countOf q_246 q_247 q_248 ⟨by decide, by decide⟩ 11 1 rfl rfl rfl (Fr.all rfl) rfl (Nat.le_of_ble_eq_true rfl) dX1_gapOf_23 ?_
  refine v_isub X (pc := 26) dX1_gapOf_26 ?_
  refine v_istore_n X (pc := 27) (L2 := [(3, .int (q17 - q23)), (2, .int (q3 - q9)), (0, .ref (a 11)), (1, .int x1)]) dX1_gapOf_27 rfl (by decide) rfl ?_
  refine v_iload_n X (pc := 28) dX1_gapOf_28 rfl 1 rfl ?_
  refine v_mabs X (pc := 29)  q_254 q_255 q_20 q_256 (by decide) (Nat.le_of_ble_eq_true rfl) dX1_gapOf_29 ?_
  refine v_iload_n X (pc := 32) dX1_gapOf_32 rfl 0 rfl ?_
  refine v_mabs X (pc := 33)  q_254 q_255 q_20 q_256 (by decide) (Nat.le_of_ble_eq_true rfl) dX1_gapOf_33 ?_
  refine v_iadd X (pc := 36) dX1_gapOf_36 ?_
  replace h := oi h
  subst h
  exact v_iret X (pc := 37) F dX1_gapOf_37
theorem cw_X1_gapOf : CwB yX1_gapOf cX1_gapOf 4 (Option.some FieldType.int) 1 := ⟨q_245, q_16, by decide, by decide, by decide +kernel⟩
def f_X1_makePairAgree (σ : Blk) (x1 : Int32) (x2 : Int32) (x3 : Int32) : Option (Blk) :=
  (f_X1_countOf σ x1 x2).bind fun q3 => (f_X1_countOf σ x1 x3).bind fun q9 => lt (f_X5_counterIndex x1 x2) fun q23 => (f_X5_put 48 (σ 7) q23 (maxF q3 q9)).bind fun q28 => lt (upR σ 7 q28) fun m28 => lt (f_X5_counterIndex x1 x3) fun q37 => (f_X5_put 48 (m28 7) q37 (maxF q3 q9)).bind fun q42 => lt (upR m28 7 q42) fun m42 => some m42
set_option maxHeartbeats 4000000 in
set_option maxRecDepth 100000 in
theorem c_X1_makePairAgree (l : Launch) (g : Gl) (a : Nat → Nat) (σ : Blk) (x1 : Int32) (x2 : Int32) (x3 : Int32) {res : Blk} (h : f_X1_makePairAgree σ x1 x2 x3 = some res) : Ok l g yX1_makePairAgree cX1_makePairAgree 5 (Option.none : Option FieldType) 2 43 [.ref (a 11), .int x1, .int x2, .int x3] (wSt g a σ) none (wSt g a res) := by
  refine Ok.of RX1 (by decide) rfl (Nat.le_of_ble_eq_true rfl) (fun x hl hg X F => ?_)
  subst hg; subst hl
  rw [f_X1_makePairAgree] at h
  show V x (wSt x.g a σ) [(0, .ref (a 11)), (1, .int x1), (2, .int x2), (3, .int x3)] [] 0
  refine v_aload_n X (pc := 0) dX1_makePairAgree_0 rfl 0 rfl ?_
  refine v_iload_n X (pc := 1) dX1_makePairAgree_1 rfl 1 rfl ?_
  refine v_iload_n X (pc := 2) dX1_makePairAgree_2 rfl 2 rfl ?_
  obtain ⟨q3, e3, h⟩ := ob h
  refine v_callV X (pc := 3) (st1 := [.int q3]) (w' := (wSt x.g a σ)) [.int x1, .int x2] [] (c_X1_countOf x.l x.g a σ x1 x2 e3) rfl rfl cw_X1_countOf q_246 q_247 q_248 ⟨by decide, by decide⟩ 11 1 rfl rfl rfl (Fr.all rfl) rfl (Nat.le_of_ble_eq_true rfl) dX1_makePairAgree_3 ?_
  refine v_aload_n X (pc := 6) dX1_makePairAgree_6 rfl 0 rfl ?_
  refine v_iload_n X (pc := 7) dX1_makePairAgree_7 rfl 1 rfl ?_
  refine v_iload_n X (pc := 8) dX1_makePairAgree_8 rfl 3 rfl ?_
  obtain ⟨q9, e9, h⟩ := ob h
  refine v_callV X (pc := 9) (st1 := [.int q9, .int q3]) (w' := (wSt x.g a σ)) [.int x1, .int x3] [.int q3] (c_X1_countOf x.l x.g a σ x1 x3 e9) rfl rfl cw_X1_countOf q_246 q_247 q_248 ⟨by decide, by decide⟩ 11 1 rfl rfl rfl (Fr.all rfl) rfl (Nat.le_of_ble_eq_true rfl) dX1_makePairAgree_9 ?_
  refine v_mmax X (pc := 12)  q_371 q_372 q_20 q_373 (by decide) (Nat.le_of_ble_eq_true rfl) dX1_makePairAgree_12 ?_
  refine v_istore X (pc := 15) (L2 := [(4, .int (maxF q3 q9)), (0, .ref (a 11)), (1, .int x1), (2, .int x2), (3, .int x3)]) dX1_makePairAgree_15 (by decide) rfl ?_
  refine v_aload_n X (pc := 17) dX1_makePairAgree_17 rfl 1 rfl ?_
  refine v_get X (pc := 18) (v := .ref (a 7)) uw1 11 rfl rfl 0 (by decide) q_41 rfl rfl dX1_makePairAgree_18 ?_
  refine v_iload_n X (pc := 21) dX1_makePairAgree_21 rfl 2 rfl ?_
  refine v_iload_n X (pc := 22) dX1_makePairAgree_22 rfl 3 rfl ?_
  obtain ⟨q23, e23, h⟩ := lts h
  refine v_callSN X (pc := 23) (st1 := [.int q23, .ref (a 7)]) (w' := (wSt x.g a σ)) [.int x1, .int x2] [.ref (a 7)] (c_X5_counterIndex x.l x.g  x1 x2 e23) rfl rfl cw_X5_counterIndex k_24 q_251 ⟨by decide, by decide⟩ Fr.nil rfl (Nat.le_of_ble_eq_true rfl) dX1_makePairAgree_23 ?_
  refine v_iload X (pc := 26) dX1_makePairAgree_26 0 rfl ?_
  obtain ⟨q28, e28, h⟩ := ob h
  obtain ⟨m28, em28, h⟩ := lts h
  refine v_callSN X (pc := 28) (st1 := []) (w' := (wSt x.g a m28)) [.ref (a 7), .int q23, .int (maxF q3 q9)] [] (c_X5_put x.l x.g (a 7) 48 (σ 7) q23 (maxF q3 q9) e28) rfl rfl cw_X5_put k_27 q_329 ⟨by decide, by decide⟩ (by rw [← em28]; exact (Fr.of [7] rfl rfl rfl rfl rfl)) rfl (Nat.le_of_ble_eq_true rfl) dX1_makePairAgree_28 ?_
  refine v_aload_n X (pc := 31) dX1_makePairAgree_31 rfl 1 rfl ?_
  refine v_get X (pc := 32) (v := .ref (a 7)) uw1 11 rfl rfl 0 (by decide) q_41 rfl rfl dX1_makePairAgree_32 ?_
  refine v_iload_n X (pc := 35) dX1_makePairAgree_35 rfl 2 rfl ?_
  refine v_iload_n X (pc := 36) dX1_makePairAgree_36 rfl 4 rfl ?_
  obtain ⟨q37, e37, h⟩ := lts h
  refine v_callSN X (pc := 37) (st1 := [.int q37, .ref (a 7)]) (w' := (wSt x.g a m28)) [.int x1, .int x3] [.ref (a 7)] (c_X5_counterIndex x.l x.g  x1 x3 e37) rfl rfl cw_X5_counterIndex k_24 q_251 ⟨by decide, by decide⟩ Fr.nil rfl (Nat.le_of_ble_eq_true rfl) dX1_makePairAgree_37 ?_
  refine v_iload X (pc := 40) dX1_makePairAgree_40 0 rfl ?_
  obtain ⟨q42, e42, h⟩ := ob h
  obtain ⟨m42, em42, h⟩ := lts h
  refine v_callSN X (pc := 42) (st1 := []) (w' := (wSt x.g a m42)) [.ref (a 7), .int q37, .int (maxF q3 q9)] [] (c_X5_put x.l x.g (a 7) 48 (m28 7) q37 (maxF q3 q9) e42) rfl rfl cw_X5_put k_27 q_329 ⟨by decide, by decide⟩ (by rw [← em42]; exact (Fr.of [7] rfl rfl rfl rfl rfl)) rfl (Nat.le_of_ble_eq_true rfl) dX1_makePairAgree_42 ?_
  replace h := oi h
  subst h
  exact v_vret X (pc := 45) F dX1_makePairAgree_45
theorem cw_X1_makePairAgree : CwB yX1_makePairAgree cX1_makePairAgree 5 (Option.none : Option FieldType) 3 := ⟨q_370, q_16, by decide, by decide, by decide +kernel⟩
def f_X1_makeAgree (σ : Blk) (x1 : Int32) : Option (Blk) :=
  (f_X1_makePairAgree σ x1 0 3).bind fun q4 => (f_X1_makePairAgree q4 x1 1 2).bind fun q11 => some q11
set_option maxHeartbeats 4000000 in
set_option maxRecDepth 100000 in
theorem c_X1_makeAgree (l : Launch) (g : Gl) (a : Nat → Nat) (σ : Blk) (x1 : Int32) {res : Blk} (h : f_X1_makeAgree σ x1 = some res) : Ok l g yX1_makeAgree cX1_makeAgree 2 (Option.none : Option FieldType) 3 67 [.ref (a 11), .int x1] (wSt g a σ) none (wSt g a res) := by
  refine Ok.of RX1 (by decide) rfl (Nat.le_of_ble_eq_true rfl) (fun x hl hg X F => ?_)
  subst hg; subst hl
  rw [f_X1_makeAgree] at h
  show V x (wSt x.g a σ) [(0, .ref (a 11)), (1, .int x1)] [] 0
  refine v_aload_n X (pc := 0) dX1_makeAgree_0 rfl 0 rfl ?_
  refine v_iload_n X (pc := 1) dX1_makeAgree_1 rfl 1 rfl ?_
  refine v_iconst X (pc := 2) (v := 0) dX1_makeAgree_2 (by decide) ?_
  refine v_iconst X (pc := 3) (v := 3) dX1_makeAgree_3 (by decide) ?_
  obtain ⟨q4, e4, h⟩ := ob h
  refine v_callV X (pc := 4) (st1 := []) (w' := (wSt x.g a q4)) [.int x1, .int 0, .int 3] [] (c_X1_makePairAgree x.l x.g a σ x1 0 3 e4) rfl rfl cw_X1_makePairAgree q_367 q_369 q_3 ⟨by decide, by decide⟩ 11 1 rfl rfl rfl (Fr.all rfl) rfl (Nat.le_of_ble_eq_true rfl) dX1_makeAgree_4 ?_
  refine v_aload_n X (pc := 7) dX1_makeAgree_7 rfl 0 rfl ?_
  refine v_iload_n X (pc := 8) dX1_makeAgree_8 rfl 1 rfl ?_
  refine v_iconst X (pc := 9) (v := 1) dX1_makeAgree_9 (by decide) ?_
  refine v_iconst X (pc := 10) (v := 2) dX1_makeAgree_10 (by decide) ?_
  obtain ⟨q11, e11, h⟩ := ob h
  refine v_callV X (pc := 11) (st1 := []) (w' := (wSt x.g a q11)) [.int x1, .int 1, .int 2] [] (c_X1_makePairAgree x.l x.g a q4 x1 1 2 e11) rfl rfl cw_X1_makePairAgree q_367 q_369 q_3 ⟨by decide, by decide⟩ 11 1 rfl rfl rfl (Fr.all rfl) rfl (Nat.le_of_ble_eq_true rfl) dX1_makeAgree_11 ?_
  replace h := oi h
  subst h
  exact v_vret X (pc := 14) F dX1_makeAgree_14
theorem cw_X1_makeAgree : CwB yX1_makeAgree cX1_makeAgree 2 (Option.none : Option FieldType) 1 := ⟨q_366, q_16, by decide, by decide, by decide +kernel⟩
def f_X1_withSlip_L4 (σ : Blk) : Nat → Int32 → Int32 → Option (Int32)
  | 0, _, _ => none
  | n + 1, x1, x2 =>
    (if (nI 48) ≤ x2 then some x1 else (f_X5_at 48 (σ 8) x2).bind fun q18 => (if q18 ≤ 0 then f_X1_withSlip_L4 σ n x1 (x2 + 1) else f_X1_withSlip_L4 σ n (x1 + 1) (x2 + 1)))
set_option maxHeartbeats 4000000 in
set_option maxRecDepth 100000 in
theorem v_X1_withSlip_L4 {x : Ctx} (X : Cx x RX1 cX1_withSlip 3 1 21) (a : Nat → Nat) (σ : Blk) : ∀ (n : Nat) (x1 : Int32) (x2 : Int32) {res : Int32}, f_X1_withSlip_L4 σ n x1 x2 = some res → Fn x (Option.some FieldType.int) (some (.int res)) (wSt x.g a σ) → V x (wSt x.g a σ) [(0, .ref (a 11)), (1, .int x1), (2, .int x2)] [] 4 := by
  intro n
  induction n with
  | zero =>
    intro x1 x2 res h F
    rw [f_X1_withSlip_L4] at h
    cases h
  | succ n ih =>
    intro x1 x2 res h F
    rw [f_X1_withSlip_L4] at h
    refine v_iload_n X (pc := 4) dX1_withSlip_4 rfl 2 rfl ?_
    refine v_aload_n X (pc := 5) dX1_withSlip_5 rfl 0 rfl ?_
    refine v_get X (pc := 6) (v := .ref (a 8)) uw1 11 rfl rfl 1 (by decide) q_43 rfl rfl dX1_withSlip_6 ?_
    refine v_alen X (pc := 9) 8 rfl dX1_withSlip_9 ?_
    refine v_icmpge X (pc := 10) (tgt := 33) dX1_withSlip_10 (by decide) (fun c => ?_) (fun c => ?_)
    · replace h := hp c h
      refine v_iload_n X (pc := 33) dX1_withSlip_33 rfl 1 rfl ?_
      replace h := oi h
      subst h
      exact v_iret X (pc := 34) F dX1_withSlip_34
    · replace h := hn c h
      refine v_aload_n X (pc := 13) dX1_withSlip_13 rfl 0 rfl ?_
      refine v_get X (pc := 14) (v := .ref (a 8)) uw1 11 rfl rfl 1 (by decide) q_43 rfl rfl dX1_withSlip_14 ?_
      refine v_iload_n X (pc := 17) dX1_withSlip_17 rfl 2 rfl ?_
      obtain ⟨q18, e18, h⟩ := ob h
      refine v_callSN X (pc := 18) (st1 := [.int q18]) (w' := (wSt x.g a σ)) [.ref (a 8), .int x2] [] (c_X5_at x.l x.g (a 8) 48 (σ 8) x2 e18) rfl rfl cw_X5_at k_25 q_221 ⟨by decide, by decide⟩ (Fr.of [8] rfl rfl rfl rfl rfl) rfl (Nat.le_of_ble_eq_true rfl) dX1_withSlip_18 ?_
      refine v_ifle X (pc := 21) (tgt := 27) dX1_withSlip_21 (by decide) (fun c => ?_) (fun c => ?_)
      · replace h := hp c h
        refine v_iinc X (pc := 27) (v := (x2 + 1)) (L2 := [(2, .int (x2 + 1)), (0, .ref (a 11)), (1, .int x1)]) dX1_withSlip_27 2 rfl (by first | rfl | decide) (by decide) rfl ?_
        refine v_goto X (pc := 30) (tgt := 4) dX1_withSlip_30 (by decide) ?_
        refine v_sub (L2 := [(0, .ref (a 11)), (1, .int x1), (2, .int (x2 + 1))]) [1, 2, 0] rfl ?_
        exact ih x1 (x2 + 1) h F
      · replace h := hn c h
        refine v_iinc X (pc := 24) (v := (x1 + 1)) (L2 := [(1, .int (x1 + 1)), (0, .ref (a 11)), (2, .int x2)]) dX1_withSlip_24 1 rfl (by first | rfl | decide) (by decide) rfl ?_
        refine v_iinc X (pc := 27) (v := (x2 + 1)) (L2 := [(2, .int (x2 + 1)), (1, .int (x1 + 1)), (0, .ref (a 11))]) dX1_withSlip_27 2 rfl (by first | rfl | decide) (by decide) rfl ?_
        refine v_goto X (pc := 30) (tgt := 4) dX1_withSlip_30 (by decide) ?_
        refine v_sub (L2 := [(0, .ref (a 11)), (1, .int (x1 + 1)), (2, .int (x2 + 1))]) [2, 1, 0] rfl ?_
        exact ih (x1 + 1) (x2 + 1) h F
def f_X1_withSlip (σ : Blk) : Option (Int32) :=
  f_X1_withSlip_L4 σ FU 0 0
set_option maxHeartbeats 4000000 in
set_option maxRecDepth 100000 in
theorem c_X1_withSlip (l : Launch) (g : Gl) (a : Nat → Nat) (σ : Blk) {res : Int32} (h : f_X1_withSlip σ = some res) : Ok l g yX1_withSlip cX1_withSlip 3 (Option.some FieldType.int) 1 21 [.ref (a 11)] (wSt g a σ) (some (.int res)) (wSt g a σ) := by
  refine Ok.of RX1 (by decide) rfl (Nat.le_of_ble_eq_true rfl) (fun x hl hg X F => ?_)
  subst hg; subst hl
  rw [f_X1_withSlip] at h
  show V x (wSt x.g a σ) [(0, .ref (a 11))] [] 0
  refine v_iconst X (pc := 0) (v := 0) dX1_withSlip_0 (by decide) ?_
  refine v_istore_n X (pc := 1) (L2 := [(1, .int 0), (0, .ref (a 11))]) dX1_withSlip_1 rfl (by decide) rfl ?_
  refine v_iconst X (pc := 2) (v := 0) dX1_withSlip_2 (by decide) ?_
  refine v_istore_n X (pc := 3) (L2 := [(2, .int 0), (1, .int 0), (0, .ref (a 11))]) dX1_withSlip_3 rfl (by decide) rfl ?_
  refine v_sub (L2 := [(0, .ref (a 11)), (1, .int 0), (2, .int 0)]) [2, 1, 0] rfl ?_
  exact v_X1_withSlip_L4 X a σ FU 0 0 h F
theorem cw_X1_withSlip : CwB yX1_withSlip cX1_withSlip 3 (Option.some FieldType.int) 0 := ⟨q_303, q_16, by decide, by decide, by decide +kernel⟩
